/-! the law's world: the class's cells, then the reference's -/
def cL (kC : Nat → ClassId) (eD : Nat) (c : CS) : List va_W := [(wP kC c.ad c.qR c.lp c.la c.lj c.qM c.qN c.ft c.wr c.tl c.tn c.bo c.lD c.td), (wR kC c.qR (fun i => nI (c.rA i)) (fun i => lN (c.rC i)) c.rn), (wLq kC eD c.lp c.mdp c.xp c.pn c.pa), (pQ c.pa c.kd c.aG c.sR c.sT c.dY c.pho c.ppe c.pn), (wLq kC eD c.la c.mda c.xa c.an c.aa), (pA c.aa c.anu c.pd c.cN c.mN c.aop c.an), (wN kC c.qN c.rr c.fc c.ntot c.ch), (pF kC c.rr c.fp), (wLq kC eD c.lj c.mdj c.xj c.jn c.ja), (pJ kC c.ja c.jx c.jne c.jn), (wM kC c.qM c.sh c.be c.ob c.os c.oc c.ar c.gi c.pg c.ag c.mp c.ma c.prn c.mtot)]
def mL (kC : Nat → ClassId) (c : CS) (m : MS) : List va_W := [(wO kC m.ad c.td c.rn c.pn c.an c.jn c.tn m.bm m.fw m.gp m.ga m.bp m.fc m.fj c.rA c.rC c.ft c.kd c.aG c.sR c.sT m.wh c.dY c.pd c.cN c.mN m.sv m.nd c.wr m.tl m.lt m.lT c.lD m.gv m.gn m.od m.br)]
def lawW (kC : Nat → ClassId) (eD : Nat) (c : CS) (m : MS) : List va_W := [fl (cL kC eD c), fl (mL kC c m)]
theorem lawW_c (kC : Nat → ClassId) (eD : Nat) (ad : Nat → Nat) (qR : Nat → Nat) (lp : Nat) (la : Nat) (lj : Nat) (qM : Nat → Nat) (qN : Nat → Nat) (ft : Nat → Int32) (wr : Nat → Nat) (tl : Nat → Int32) (tn : Nat) (bo : Nat → Int32) (lD : Nat → Nat) (td : Nat) (rA : Nat → Nat) (rC : Nat → Nat) (rn : Nat) (mdp : Int32) (xp : Nat) (pn : Nat) (pa : Nat → Nat) (kd : Nat → Nat) (aG : Nat → Nat) (sR : Nat → Nat) (sT : Nat → Nat) (dY : Nat → Nat) (pho : Nat → Int32) (ppe : Nat → Int32) (mda : Int32) (xa : Nat) (an : Nat) (aa : Nat → Nat) (anu : Nat → Nat) (pd : Nat → Nat) (cN : Nat → Nat) (mN : Nat → Nat) (aop : Nat → Int32) (rr : Nat → Nat) (fc : Nat → Nat) (ntot : Int64) (ch : Nat) (fp : Nat → Nat → Nat) (mdj : Int32) (xj : Nat) (jn : Nat) (ja : Nat → Nat) (jx : Nat → Nat) (jne : Nat → Nat → Nat) (sh : Nat → Int64) (be : Nat → Int64) (ob : Nat → Int32) (os : Nat → Int64) (oc : Nat) (ar : Nat → Int32) (gi : Nat → Int32) (pg : Nat → Int64) (ag : Nat → Int64) (mp : Nat) (ma : Nat) (prn : Nat) (mtot : Int64) (ms : MS) : lawW kC eD (mkCS ad qR lp la lj qM qN ft wr tl tn bo lD td rA rC rn mdp xp pn pa kd aG sR sT dY pho ppe mda xa an aa anu pd cN mN aop rr fc ntot ch fp mdj xj jn ja jx jne sh be ob os oc ar gi pg ag mp ma prn mtot) ms = [fl [(wP kC ad qR lp la lj qM qN ft wr tl tn bo lD td), (wR kC qR (fun i => nI (rA i)) (fun i => lN (rC i)) rn), (wLq kC eD lp mdp xp pn pa), (pQ pa kd aG sR sT dY pho ppe pn), (wLq kC eD la mda xa an aa), (pA aa anu pd cN mN aop an), (wN kC qN rr fc ntot ch), (pF kC rr fp), (wLq kC eD lj mdj xj jn ja), (pJ kC ja jx jne jn), (wM kC qM sh be ob os oc ar gi pg ag mp ma prn mtot)], fl [(wO kC ms.ad td rn pn an jn tn ms.bm ms.fw ms.gp ms.ga ms.bp ms.fc ms.fj rA rC ft kd aG sR sT ms.wh dY pd cN mN ms.sv ms.nd wr ms.tl ms.lt ms.lT lD ms.gv ms.gn ms.od ms.br)]] := rfl
theorem lawW_cm (kC : Nat → ClassId) (eD : Nat) (ad : Nat → Nat) (qR : Nat → Nat) (lp : Nat) (la : Nat) (lj : Nat) (qM : Nat → Nat) (qN : Nat → Nat) (ft : Nat → Int32) (wr : Nat → Nat) (tl : Nat → Int32) (tn : Nat) (bo : Nat → Int32) (lD : Nat → Nat) (td : Nat) (rA : Nat → Nat) (rC : Nat → Nat) (rn : Nat) (mdp : Int32) (xp : Nat) (pn : Nat) (pa : Nat → Nat) (kd : Nat → Nat) (aG : Nat → Nat) (sR : Nat → Nat) (sT : Nat → Nat) (dY : Nat → Nat) (pho : Nat → Int32) (ppe : Nat → Int32) (mda : Int32) (xa : Nat) (an : Nat) (aa : Nat → Nat) (anu : Nat → Nat) (pd : Nat → Nat) (cN : Nat → Nat) (mN : Nat → Nat) (aop : Nat → Int32) (rr : Nat → Nat) (fc : Nat → Nat) (ntot : Int64) (ch : Nat) (fp : Nat → Nat → Nat) (mdj : Int32) (xj : Nat) (jn : Nat) (ja : Nat → Nat) (jx : Nat → Nat) (jne : Nat → Nat → Nat) (sh : Nat → Int64) (be : Nat → Int64) (ob : Nat → Int32) (os : Nat → Int64) (oc : Nat) (ar : Nat → Int32) (gi : Nat → Int32) (pg : Nat → Int64) (ag : Nat → Int64) (mp : Nat) (ma : Nat) (prn : Nat) (mtot : Int64) (ad' : Nat → Nat) (bm' : Int32) (fw' : Int64) (gp' : Nat) (ga' : Nat) (bp' : Int32) (fc' : Int64) (fj' : Nat) (wh' : Nat → Nat) (sv' : Nat → Int32) (nd' : Nat → Nat) (tl' : Nat → Nat) (lt' : Nat → Int32) (lT' : Nat → Nat) (gv' : Nat → Int32) (gn' : Nat → Int64) (od' : Nat → Nat) (br' : Nat → Nat) : lawW kC eD (mkCS ad qR lp la lj qM qN ft wr tl tn bo lD td rA rC rn mdp xp pn pa kd aG sR sT dY pho ppe mda xa an aa anu pd cN mN aop rr fc ntot ch fp mdj xj jn ja jx jne sh be ob os oc ar gi pg ag mp ma prn mtot) (mkMS ad' bm' fw' gp' ga' bp' fc' fj' wh' sv' nd' tl' lt' lT' gv' gn' od' br') = [fl [(wP kC ad qR lp la lj qM qN ft wr tl tn bo lD td), (wR kC qR (fun i => nI (rA i)) (fun i => lN (rC i)) rn), (wLq kC eD lp mdp xp pn pa), (pQ pa kd aG sR sT dY pho ppe pn), (wLq kC eD la mda xa an aa), (pA aa anu pd cN mN aop an), (wN kC qN rr fc ntot ch), (pF kC rr fp), (wLq kC eD lj mdj xj jn ja), (pJ kC ja jx jne jn), (wM kC qM sh be ob os oc ar gi pg ag mp ma prn mtot)], fl [(wO kC ad' td rn pn an jn tn bm' fw' gp' ga' bp' fc' fj' rA rC ft kd aG sR sT wh' dY pd cN mN sv' nd' wr tl' lt' lT' lD gv' gn' od' br')]] := rfl
theorem mkCS_ad (ad : Nat → Nat) (qR : Nat → Nat) (lp : Nat) (la : Nat) (lj : Nat) (qM : Nat → Nat) (qN : Nat → Nat) (ft : Nat → Int32) (wr : Nat → Nat) (tl : Nat → Int32) (tn : Nat) (bo : Nat → Int32) (lD : Nat → Nat) (td : Nat) (rA : Nat → Nat) (rC : Nat → Nat) (rn : Nat) (mdp : Int32) (xp : Nat) (pn : Nat) (pa : Nat → Nat) (kd : Nat → Nat) (aG : Nat → Nat) (sR : Nat → Nat) (sT : Nat → Nat) (dY : Nat → Nat) (pho : Nat → Int32) (ppe : Nat → Int32) (mda : Int32) (xa : Nat) (an : Nat) (aa : Nat → Nat) (anu : Nat → Nat) (pd : Nat → Nat) (cN : Nat → Nat) (mN : Nat → Nat) (aop : Nat → Int32) (rr : Nat → Nat) (fc : Nat → Nat) (ntot : Int64) (ch : Nat) (fp : Nat → Nat → Nat) (mdj : Int32) (xj : Nat) (jn : Nat) (ja : Nat → Nat) (jx : Nat → Nat) (jne : Nat → Nat → Nat) (sh : Nat → Int64) (be : Nat → Int64) (ob : Nat → Int32) (os : Nat → Int64) (oc : Nat) (ar : Nat → Int32) (gi : Nat → Int32) (pg : Nat → Int64) (ag : Nat → Int64) (mp : Nat) (ma : Nat) (prn : Nat) (mtot : Int64) : (mkCS ad qR lp la lj qM qN ft wr tl tn bo lD td rA rC rn mdp xp pn pa kd aG sR sT dY pho ppe mda xa an aa anu pd cN mN aop rr fc ntot ch fp mdj xj jn ja jx jne sh be ob os oc ar gi pg ag mp ma prn mtot).ad = ad := rfl
theorem mkMS_ad (ad' : Nat → Nat) (bm' : Int32) (fw' : Int64) (gp' : Nat) (ga' : Nat) (bp' : Int32) (fc' : Int64) (fj' : Nat) (wh' : Nat → Nat) (sv' : Nat → Int32) (nd' : Nat → Nat) (tl' : Nat → Nat) (lt' : Nat → Int32) (lT' : Nat → Nat) (gv' : Nat → Int32) (gn' : Nat → Int64) (od' : Nat → Nat) (br' : Nat → Nat) : (mkMS ad' bm' fw' gp' ga' bp' fc' fj' wh' sv' nd' tl' lt' lT' gv' gn' od' br').ad = ad' := rfl
/-- a long out of two ints of the script -/
def scL (xs : Nat → Int32) (j : Nat) : Int64 := ((xs j).toInt64 <<< ((nI 32).toInt64 &&& 63)) ||| ((xs (j + 1)).toInt64 &&& 4294967295)
theorem nI_1e : nI 1 = 1 := by decide
theorem rmC {cc : Nat} (h : cc + 3 ≤ room_1.cells) (a k : Nat) (hk : a + k ≤ 3) : cc + a + k ≤ room_1.cells := Nat.le_trans (by omega) h
theorem rmS {sc : Nat} (h : sc + 17 ≤ room_1.slots) (a k : Nat) (hk : a + k ≤ 17) : sc + a + k ≤ room_1.slots := Nat.le_trans (by omega) h
/-- what holds as a call of the script begins -/
def LwH (p : Program) (s : State) (m : MethodId) (meth : Method) (c : Code) (b : Nat) (L : Nat) (xs : Nat → Int32) (D : va_G) (kC : Nat → ClassId) (eD : Nat) (i : Nat) (cc : Nat) (sc : Nat) (cs : CS) (ms : MS) (H : Heap) (locs : List Loc) (ls : Array Slot) : Prop := (lw_At p s m meth c b L xs) ∧ (va_K D cls (tyL kC) s) ∧ (lzE eD (fun q : Nat => s.heap.size ≤ q) s s.heap) ∧ (L ≤ 3072) ∧ (i + 6 ≤ L) ∧ (cc + 3 ≤ room_1.cells) ∧ (sc + 17 ≤ room_1.slots) ∧ (Rel cs ms) ∧ (va_P D cls (fl (lawW kC eD cs ms)) H) ∧ (va_D (fun q : Nat => s.heap.size ≤ q) (fl (lawW kC eD cs ms))) ∧ (va_S (fun q : Nat => s.heap.size ≤ q) s.heap H locs) ∧ (lv_has ls 4 [(0, .ref b), (1, .ref (cs.ad 0)), (2, .ref (ms.ad 0)), (3, .int (nI i))])
theorem LwH.C0 {p : Program} {s : State} {m : MethodId} {meth : Method} {c : Code} {b : Nat} {L : Nat} {xs : Nat → Int32} {D : va_G} {kC : Nat → ClassId} {eD : Nat} {i : Nat} {cc : Nat} {sc : Nat} {cs : CS} {ms : MS} {H : Heap} {locs : List Loc} {ls : Array Slot} (h : LwH p s m meth c b L xs D kC eD i cc sc cs ms H locs ls) : lw_At p s m meth c b L xs := h.1
theorem LwH.hK {p : Program} {s : State} {m : MethodId} {meth : Method} {c : Code} {b : Nat} {L : Nat} {xs : Nat → Int32} {D : va_G} {kC : Nat → ClassId} {eD : Nat} {i : Nat} {cc : Nat} {sc : Nat} {cs : CS} {ms : MS} {H : Heap} {locs : List Loc} {ls : Array Slot} (h : LwH p s m meth c b L xs D kC eD i cc sc cs ms H locs ls) : va_K D cls (tyL kC) s := h.2.1
theorem LwH.hz {p : Program} {s : State} {m : MethodId} {meth : Method} {c : Code} {b : Nat} {L : Nat} {xs : Nat → Int32} {D : va_G} {kC : Nat → ClassId} {eD : Nat} {i : Nat} {cc : Nat} {sc : Nat} {cs : CS} {ms : MS} {H : Heap} {locs : List Loc} {ls : Array Slot} (h : LwH p s m meth c b L xs D kC eD i cc sc cs ms H locs ls) : lzE eD (fun q : Nat => s.heap.size ≤ q) s s.heap := h.2.2.1
theorem LwH.hL {p : Program} {s : State} {m : MethodId} {meth : Method} {c : Code} {b : Nat} {L : Nat} {xs : Nat → Int32} {D : va_G} {kC : Nat → ClassId} {eD : Nat} {i : Nat} {cc : Nat} {sc : Nat} {cs : CS} {ms : MS} {H : Heap} {locs : List Loc} {ls : Array Slot} (h : LwH p s m meth c b L xs D kC eD i cc sc cs ms H locs ls) : L ≤ 3072 := h.2.2.2.1
theorem LwH.hi {p : Program} {s : State} {m : MethodId} {meth : Method} {c : Code} {b : Nat} {L : Nat} {xs : Nat → Int32} {D : va_G} {kC : Nat → ClassId} {eD : Nat} {i : Nat} {cc : Nat} {sc : Nat} {cs : CS} {ms : MS} {H : Heap} {locs : List Loc} {ls : Array Slot} (h : LwH p s m meth c b L xs D kC eD i cc sc cs ms H locs ls) : i + 6 ≤ L := h.2.2.2.2.1
theorem LwH.h3 {p : Program} {s : State} {m : MethodId} {meth : Method} {c : Code} {b : Nat} {L : Nat} {xs : Nat → Int32} {D : va_G} {kC : Nat → ClassId} {eD : Nat} {i : Nat} {cc : Nat} {sc : Nat} {cs : CS} {ms : MS} {H : Heap} {locs : List Loc} {ls : Array Slot} (h : LwH p s m meth c b L xs D kC eD i cc sc cs ms H locs ls) : cc + 3 ≤ room_1.cells := h.2.2.2.2.2.1
theorem LwH.h17 {p : Program} {s : State} {m : MethodId} {meth : Method} {c : Code} {b : Nat} {L : Nat} {xs : Nat → Int32} {D : va_G} {kC : Nat → ClassId} {eD : Nat} {i : Nat} {cc : Nat} {sc : Nat} {cs : CS} {ms : MS} {H : Heap} {locs : List Loc} {ls : Array Slot} (h : LwH p s m meth c b L xs D kC eD i cc sc cs ms H locs ls) : sc + 17 ≤ room_1.slots := h.2.2.2.2.2.2.1
theorem LwH.R {p : Program} {s : State} {m : MethodId} {meth : Method} {c : Code} {b : Nat} {L : Nat} {xs : Nat → Int32} {D : va_G} {kC : Nat → ClassId} {eD : Nat} {i : Nat} {cc : Nat} {sc : Nat} {cs : CS} {ms : MS} {H : Heap} {locs : List Loc} {ls : Array Slot} (h : LwH p s m meth c b L xs D kC eD i cc sc cs ms H locs ls) : Rel cs ms := h.2.2.2.2.2.2.2.1
theorem LwH.hP {p : Program} {s : State} {m : MethodId} {meth : Method} {c : Code} {b : Nat} {L : Nat} {xs : Nat → Int32} {D : va_G} {kC : Nat → ClassId} {eD : Nat} {i : Nat} {cc : Nat} {sc : Nat} {cs : CS} {ms : MS} {H : Heap} {locs : List Loc} {ls : Array Slot} (h : LwH p s m meth c b L xs D kC eD i cc sc cs ms H locs ls) : va_P D cls (fl (lawW kC eD cs ms)) H := h.2.2.2.2.2.2.2.2.1
theorem LwH.hD {p : Program} {s : State} {m : MethodId} {meth : Method} {c : Code} {b : Nat} {L : Nat} {xs : Nat → Int32} {D : va_G} {kC : Nat → ClassId} {eD : Nat} {i : Nat} {cc : Nat} {sc : Nat} {cs : CS} {ms : MS} {H : Heap} {locs : List Loc} {ls : Array Slot} (h : LwH p s m meth c b L xs D kC eD i cc sc cs ms H locs ls) : va_D (fun q : Nat => s.heap.size ≤ q) (fl (lawW kC eD cs ms)) := h.2.2.2.2.2.2.2.2.2.1
theorem LwH.hS {p : Program} {s : State} {m : MethodId} {meth : Method} {c : Code} {b : Nat} {L : Nat} {xs : Nat → Int32} {D : va_G} {kC : Nat → ClassId} {eD : Nat} {i : Nat} {cc : Nat} {sc : Nat} {cs : CS} {ms : MS} {H : Heap} {locs : List Loc} {ls : Array Slot} (h : LwH p s m meth c b L xs D kC eD i cc sc cs ms H locs ls) : va_S (fun q : Nat => s.heap.size ≤ q) s.heap H locs := h.2.2.2.2.2.2.2.2.2.2.1
theorem LwH.hl {p : Program} {s : State} {m : MethodId} {meth : Method} {c : Code} {b : Nat} {L : Nat} {xs : Nat → Int32} {D : va_G} {kC : Nat → ClassId} {eD : Nat} {i : Nat} {cc : Nat} {sc : Nat} {cs : CS} {ms : MS} {H : Heap} {locs : List Loc} {ls : Array Slot} (h : LwH p s m meth c b L xs D kC eD i cc sc cs ms H locs ls) : lv_has ls 4 [(0, .ref b), (1, .ref (cs.ad 0)), (2, .ref (ms.ad 0)), (3, .int (nI i))] := h.2.2.2.2.2.2.2.2.2.2.2
theorem mkLwH {p : Program} {s : State} {m : MethodId} {meth : Method} {c : Code} {b : Nat} {L : Nat} {xs : Nat → Int32} {D : va_G} {kC : Nat → ClassId} {eD : Nat} {i : Nat} {cc : Nat} {sc : Nat} {cs : CS} {ms : MS} {H : Heap} {locs : List Loc} {ls : Array Slot} (C0 : lw_At p s m meth c b L xs) (hK : va_K D cls (tyL kC) s) (hz : lzE eD (fun q : Nat => s.heap.size ≤ q) s s.heap) (hL : L ≤ 3072) (hi : i + 6 ≤ L) (h3 : cc + 3 ≤ room_1.cells) (h17 : sc + 17 ≤ room_1.slots) (R : Rel cs ms) (hP : va_P D cls (fl (lawW kC eD cs ms)) H) (hD : va_D (fun q : Nat => s.heap.size ≤ q) (fl (lawW kC eD cs ms))) (hS : va_S (fun q : Nat => s.heap.size ≤ q) s.heap H locs) (hl : lv_has ls 4 [(0, .ref b), (1, .ref (cs.ad 0)), (2, .ref (ms.ad 0)), (3, .int (nI i))]) : LwH p s m meth c b L xs D kC eD i cc sc cs ms H locs ls := ⟨C0, hK, hz, hL, hi, h3, h17, R, hP, hD, hS, hl⟩
/-- how it goes on behind a call -/
def lwK (p : Program) (l : Launch) (e : Env) (s : State) (m : MethodId) (below : List Frame) (meth : Method) (c : Code) (b : Nat) (D : va_G) (kC : Nat → ClassId) (eD cc sc : Nat) (cs : CS) (ms : MS) (ls : Array Slot) : Prop := ∀ (cs' : CS) (ms' : MS) (H' : Heap) (locs' : List Loc), Rel cs' ms' → cs'.ad 0 = cs.ad 0 → ms'.ad 0 = ms.ad 0 → va_P D cls (fl (lawW kC eD cs' ms')) H' → va_D (fun q : Nat => s.heap.size ≤ q) (fl (lawW kC eD cs' ms')) → va_S (fun q : Nat => s.heap.size ≤ q) s.heap H' locs' → W p l e room_1 s m #[Value.ref b] below meth c H' locs' (cc + 3) (sc + 17) (lw_Z below #[Value.ref b] s) (F0 m 1053 ls [])
theorem d_law_0 : decode code 0 = .ok (.new 7, 3) := by decide +kernel
theorem d_law_3 : decode code 3 = .ok (.dup, 1) := by decide +kernel
theorem d_law_4 : decode code 4 = .ok (.invokespecial 9, 3) := by decide +kernel
theorem d_law_7 : decode code 7 = .ok (.astore_n 1, 1) := by decide +kernel
theorem d_law_8 : decode code 8 = .ok (.new 10, 3) := by decide +kernel
theorem d_law_11 : decode code 11 = .ok (.dup, 1) := by decide +kernel
theorem d_law_12 : decode code 12 = .ok (.invokespecial 12, 3) := by decide +kernel
theorem d_law_15 : decode code 15 = .ok (.astore_n 2, 1) := by decide +kernel
theorem d_law_16 : decode code 16 = .ok (.iconst 0, 1) := by decide +kernel
theorem d_law_17 : decode code 17 = .ok (.istore_n 3, 1) := by decide +kernel
theorem d_law_18 : decode code 18 = .ok (.iload_n 3, 1) := by decide +kernel
theorem d_law_19 : decode code 19 = .ok (.aload_n 0, 1) := by decide +kernel
theorem d_law_20 : decode code 20 = .ok (.arraylength, 1) := by decide +kernel
theorem d_law_21 : decode code 21 = .ok (.bipush 6, 2) := by decide +kernel
theorem d_law_23 : decode code 23 = .ok (.isub, 1) := by decide +kernel
theorem d_law_24 : decode code 24 = .ok (.if_icmp .gt 1035, 3) := by decide +kernel
theorem d_law_27 : decode code 27 = .ok (.aload_n 0, 1) := by decide +kernel
theorem d_law_28 : decode code 28 = .ok (.iload_n 3, 1) := by decide +kernel
theorem d_law_29 : decode code 29 = .ok (.iaload, 1) := by decide +kernel
theorem d_law_30 : decode code 30 = .ok (.bipush 31, 2) := by decide +kernel
theorem d_law_32 : decode code 32 = .ok (.iand, 1) := by decide +kernel
theorem d_law_33 : decode code 33 = .ok (.tableswitch 1020 0 24 #[115, 138, 201, 260, 333, 357, 380, 483, 526, 539, 562, 576, 610, 643, 656, 699, 712, 726, 749, 782, 805, 908, 931, 974, 997], 115) := by decide +kernel
theorem d_law_148 : decode code 148 = .ok (.aload_n 1, 1) := by decide +kernel
theorem d_law_149 : decode code 149 = .ok (.aload_n 0, 1) := by decide +kernel
theorem d_law_150 : decode code 150 = .ok (.iload_n 3, 1) := by decide +kernel
theorem d_law_151 : decode code 151 = .ok (.iconst 1, 1) := by decide +kernel
theorem d_law_152 : decode code 152 = .ok (.iadd, 1) := by decide +kernel
theorem d_law_153 : decode code 153 = .ok (.iaload, 1) := by decide +kernel
theorem d_law_154 : decode code 154 = .ok (.invokevirtual 13, 3) := by decide +kernel
theorem d_law_157 : decode code 157 = .ok (.aload_n 2, 1) := by decide +kernel
theorem d_law_158 : decode code 158 = .ok (.aload_n 0, 1) := by decide +kernel
theorem d_law_159 : decode code 159 = .ok (.iload_n 3, 1) := by decide +kernel
theorem d_law_160 : decode code 160 = .ok (.iconst 1, 1) := by decide +kernel
theorem d_law_161 : decode code 161 = .ok (.iadd, 1) := by decide +kernel
theorem d_law_162 : decode code 162 = .ok (.iaload, 1) := by decide +kernel
theorem d_law_163 : decode code 163 = .ok (.invokevirtual 17, 3) := by decide +kernel
theorem d_law_166 : decode code 166 = .ok (.if_icmp .eq 887, 3) := by decide +kernel
theorem d_law_169 : decode code 169 = .ok (.iconst 0, 1) := by decide +kernel
theorem d_law_170 : decode code 170 = .ok (.ireturn, 1) := by decide +kernel
theorem d_law_171 : decode code 171 = .ok (.aload_n 1, 1) := by decide +kernel
theorem d_law_172 : decode code 172 = .ok (.aload_n 0, 1) := by decide +kernel
theorem d_law_173 : decode code 173 = .ok (.iload_n 3, 1) := by decide +kernel
theorem d_law_174 : decode code 174 = .ok (.iconst 1, 1) := by decide +kernel
theorem d_law_175 : decode code 175 = .ok (.iadd, 1) := by decide +kernel
theorem d_law_176 : decode code 176 = .ok (.iaload, 1) := by decide +kernel
theorem d_law_177 : decode code 177 = .ok (.aload_n 0, 1) := by decide +kernel
theorem d_law_178 : decode code 178 = .ok (.iload_n 3, 1) := by decide +kernel
theorem d_law_179 : decode code 179 = .ok (.iconst 2, 1) := by decide +kernel
theorem d_law_180 : decode code 180 = .ok (.iadd, 1) := by decide +kernel
theorem d_law_181 : decode code 181 = .ok (.iaload, 1) := by decide +kernel
theorem d_law_182 : decode code 182 = .ok (.i2l, 1) := by decide +kernel
theorem d_law_183 : decode code 183 = .ok (.bipush 32, 2) := by decide +kernel
theorem d_law_185 : decode code 185 = .ok (.lshl, 1) := by decide +kernel
theorem d_law_186 : decode code 186 = .ok (.aload_n 0, 1) := by decide +kernel
theorem d_law_187 : decode code 187 = .ok (.iload_n 3, 1) := by decide +kernel
theorem d_law_188 : decode code 188 = .ok (.iconst 3, 1) := by decide +kernel
theorem d_law_189 : decode code 189 = .ok (.iadd, 1) := by decide +kernel
theorem d_law_190 : decode code 190 = .ok (.iaload, 1) := by decide +kernel
theorem d_law_191 : decode code 191 = .ok (.i2l, 1) := by decide +kernel
theorem d_law_192 : decode code 192 = .ok (.ldc2_w 18, 3) := by decide +kernel
theorem d_law_195 : decode code 195 = .ok (.land, 1) := by decide +kernel
theorem d_law_196 : decode code 196 = .ok (.lor, 1) := by decide +kernel
theorem d_law_197 : decode code 197 = .ok (.invokevirtual 20, 3) := by decide +kernel
theorem d_law_200 : decode code 200 = .ok (.aload_n 2, 1) := by decide +kernel
theorem d_law_201 : decode code 201 = .ok (.aload_n 0, 1) := by decide +kernel
theorem d_law_202 : decode code 202 = .ok (.iload_n 3, 1) := by decide +kernel
theorem d_law_203 : decode code 203 = .ok (.iconst 1, 1) := by decide +kernel
theorem d_law_204 : decode code 204 = .ok (.iadd, 1) := by decide +kernel
theorem d_law_205 : decode code 205 = .ok (.iaload, 1) := by decide +kernel
theorem d_law_206 : decode code 206 = .ok (.aload_n 0, 1) := by decide +kernel
theorem d_law_207 : decode code 207 = .ok (.iload_n 3, 1) := by decide +kernel
theorem d_law_208 : decode code 208 = .ok (.iconst 2, 1) := by decide +kernel
theorem d_law_209 : decode code 209 = .ok (.iadd, 1) := by decide +kernel
theorem d_law_210 : decode code 210 = .ok (.iaload, 1) := by decide +kernel
theorem d_law_211 : decode code 211 = .ok (.i2l, 1) := by decide +kernel
theorem d_law_212 : decode code 212 = .ok (.bipush 32, 2) := by decide +kernel
theorem d_law_214 : decode code 214 = .ok (.lshl, 1) := by decide +kernel
theorem d_law_215 : decode code 215 = .ok (.aload_n 0, 1) := by decide +kernel
theorem d_law_216 : decode code 216 = .ok (.iload_n 3, 1) := by decide +kernel
theorem d_law_217 : decode code 217 = .ok (.iconst 3, 1) := by decide +kernel
theorem d_law_218 : decode code 218 = .ok (.iadd, 1) := by decide +kernel
theorem d_law_219 : decode code 219 = .ok (.iaload, 1) := by decide +kernel
theorem d_law_220 : decode code 220 = .ok (.i2l, 1) := by decide +kernel
theorem d_law_221 : decode code 221 = .ok (.ldc2_w 18, 3) := by decide +kernel
theorem d_law_224 : decode code 224 = .ok (.land, 1) := by decide +kernel
theorem d_law_225 : decode code 225 = .ok (.lor, 1) := by decide +kernel
theorem d_law_226 : decode code 226 = .ok (.invokevirtual 24, 3) := by decide +kernel
theorem d_law_229 : decode code 229 = .ok (.if_icmp .eq 824, 3) := by decide +kernel
theorem d_law_232 : decode code 232 = .ok (.iconst 0, 1) := by decide +kernel
theorem d_law_233 : decode code 233 = .ok (.ireturn, 1) := by decide +kernel
theorem d_law_234 : decode code 234 = .ok (.aload_n 1, 1) := by decide +kernel
theorem d_law_235 : decode code 235 = .ok (.aload_n 0, 1) := by decide +kernel
theorem d_law_236 : decode code 236 = .ok (.iload_n 3, 1) := by decide +kernel
theorem d_law_237 : decode code 237 = .ok (.iconst 1, 1) := by decide +kernel
theorem d_law_238 : decode code 238 = .ok (.iadd, 1) := by decide +kernel
theorem d_law_239 : decode code 239 = .ok (.iaload, 1) := by decide +kernel
theorem d_law_240 : decode code 240 = .ok (.aload_n 0, 1) := by decide +kernel
theorem d_law_241 : decode code 241 = .ok (.iload_n 3, 1) := by decide +kernel
theorem d_law_242 : decode code 242 = .ok (.iconst 2, 1) := by decide +kernel
theorem d_law_243 : decode code 243 = .ok (.iadd, 1) := by decide +kernel
theorem d_law_244 : decode code 244 = .ok (.iaload, 1) := by decide +kernel
theorem d_law_245 : decode code 245 = .ok (.aload_n 0, 1) := by decide +kernel
theorem d_law_246 : decode code 246 = .ok (.iload_n 3, 1) := by decide +kernel
theorem d_law_247 : decode code 247 = .ok (.iconst 3, 1) := by decide +kernel
theorem d_law_248 : decode code 248 = .ok (.iadd, 1) := by decide +kernel
theorem d_law_249 : decode code 249 = .ok (.iaload, 1) := by decide +kernel
theorem d_law_250 : decode code 250 = .ok (.ifCond .eq 7, 3) := by decide +kernel
theorem d_law_253 : decode code 253 = .ok (.iconst 1, 1) := by decide +kernel
theorem d_law_254 : decode code 254 = .ok (.goto 4, 3) := by decide +kernel
theorem d_law_257 : decode code 257 = .ok (.iconst 0, 1) := by decide +kernel
theorem d_law_258 : decode code 258 = .ok (.invokevirtual 25, 3) := by decide +kernel
theorem d_law_261 : decode code 261 = .ok (.aload_n 2, 1) := by decide +kernel
theorem d_law_262 : decode code 262 = .ok (.aload_n 0, 1) := by decide +kernel
theorem d_law_263 : decode code 263 = .ok (.iload_n 3, 1) := by decide +kernel
theorem d_law_264 : decode code 264 = .ok (.iconst 1, 1) := by decide +kernel
theorem d_law_265 : decode code 265 = .ok (.iadd, 1) := by decide +kernel
theorem d_law_266 : decode code 266 = .ok (.iaload, 1) := by decide +kernel
theorem d_law_267 : decode code 267 = .ok (.aload_n 0, 1) := by decide +kernel
theorem d_law_268 : decode code 268 = .ok (.iload_n 3, 1) := by decide +kernel
theorem d_law_269 : decode code 269 = .ok (.iconst 2, 1) := by decide +kernel
theorem d_law_270 : decode code 270 = .ok (.iadd, 1) := by decide +kernel
theorem d_law_271 : decode code 271 = .ok (.iaload, 1) := by decide +kernel
theorem d_law_272 : decode code 272 = .ok (.aload_n 0, 1) := by decide +kernel
theorem d_law_273 : decode code 273 = .ok (.iload_n 3, 1) := by decide +kernel
theorem d_law_274 : decode code 274 = .ok (.iconst 3, 1) := by decide +kernel
theorem d_law_275 : decode code 275 = .ok (.iadd, 1) := by decide +kernel
theorem d_law_276 : decode code 276 = .ok (.iaload, 1) := by decide +kernel
theorem d_law_277 : decode code 277 = .ok (.ifCond .eq 7, 3) := by decide +kernel
theorem d_law_280 : decode code 280 = .ok (.iconst 1, 1) := by decide +kernel
theorem d_law_281 : decode code 281 = .ok (.goto 4, 3) := by decide +kernel
theorem d_law_284 : decode code 284 = .ok (.iconst 0, 1) := by decide +kernel
theorem d_law_285 : decode code 285 = .ok (.invokevirtual 29, 3) := by decide +kernel
theorem d_law_288 : decode code 288 = .ok (.if_icmp .eq 765, 3) := by decide +kernel
theorem d_law_291 : decode code 291 = .ok (.iconst 0, 1) := by decide +kernel
theorem d_law_292 : decode code 292 = .ok (.ireturn, 1) := by decide +kernel
theorem d_law_293 : decode code 293 = .ok (.aload_n 1, 1) := by decide +kernel
theorem d_law_294 : decode code 294 = .ok (.aload_n 0, 1) := by decide +kernel
theorem d_law_295 : decode code 295 = .ok (.iload_n 3, 1) := by decide +kernel
theorem d_law_296 : decode code 296 = .ok (.iconst 1, 1) := by decide +kernel
theorem d_law_297 : decode code 297 = .ok (.iadd, 1) := by decide +kernel
theorem d_law_298 : decode code 298 = .ok (.iaload, 1) := by decide +kernel
theorem d_law_299 : decode code 299 = .ok (.aload_n 0, 1) := by decide +kernel
theorem d_law_300 : decode code 300 = .ok (.iload_n 3, 1) := by decide +kernel
theorem d_law_301 : decode code 301 = .ok (.iconst 2, 1) := by decide +kernel
theorem d_law_302 : decode code 302 = .ok (.iadd, 1) := by decide +kernel
theorem d_law_303 : decode code 303 = .ok (.iaload, 1) := by decide +kernel
theorem d_law_304 : decode code 304 = .ok (.aload_n 0, 1) := by decide +kernel
theorem d_law_305 : decode code 305 = .ok (.iload_n 3, 1) := by decide +kernel
theorem d_law_306 : decode code 306 = .ok (.iconst 3, 1) := by decide +kernel
theorem d_law_307 : decode code 307 = .ok (.iadd, 1) := by decide +kernel
theorem d_law_308 : decode code 308 = .ok (.iaload, 1) := by decide +kernel
theorem d_law_309 : decode code 309 = .ok (.i2l, 1) := by decide +kernel
theorem d_law_310 : decode code 310 = .ok (.bipush 32, 2) := by decide +kernel
theorem d_law_312 : decode code 312 = .ok (.lshl, 1) := by decide +kernel
theorem d_law_313 : decode code 313 = .ok (.aload_n 0, 1) := by decide +kernel
theorem d_law_314 : decode code 314 = .ok (.iload_n 3, 1) := by decide +kernel
theorem d_law_315 : decode code 315 = .ok (.iconst 4, 1) := by decide +kernel
theorem d_law_316 : decode code 316 = .ok (.iadd, 1) := by decide +kernel
theorem d_law_317 : decode code 317 = .ok (.iaload, 1) := by decide +kernel
theorem d_law_318 : decode code 318 = .ok (.i2l, 1) := by decide +kernel
theorem d_law_319 : decode code 319 = .ok (.ldc2_w 18, 3) := by decide +kernel
theorem d_law_322 : decode code 322 = .ok (.land, 1) := by decide +kernel
theorem d_law_323 : decode code 323 = .ok (.lor, 1) := by decide +kernel
theorem d_law_324 : decode code 324 = .ok (.invokevirtual 30, 3) := by decide +kernel
theorem d_law_327 : decode code 327 = .ok (.aload_n 2, 1) := by decide +kernel
theorem d_law_328 : decode code 328 = .ok (.aload_n 0, 1) := by decide +kernel
theorem d_law_329 : decode code 329 = .ok (.iload_n 3, 1) := by decide +kernel
theorem d_law_330 : decode code 330 = .ok (.iconst 1, 1) := by decide +kernel
theorem d_law_331 : decode code 331 = .ok (.iadd, 1) := by decide +kernel
theorem d_law_332 : decode code 332 = .ok (.iaload, 1) := by decide +kernel
theorem d_law_333 : decode code 333 = .ok (.aload_n 0, 1) := by decide +kernel
theorem d_law_334 : decode code 334 = .ok (.iload_n 3, 1) := by decide +kernel
theorem d_law_335 : decode code 335 = .ok (.iconst 2, 1) := by decide +kernel
theorem d_law_336 : decode code 336 = .ok (.iadd, 1) := by decide +kernel
theorem d_law_337 : decode code 337 = .ok (.iaload, 1) := by decide +kernel
theorem d_law_338 : decode code 338 = .ok (.aload_n 0, 1) := by decide +kernel
theorem d_law_339 : decode code 339 = .ok (.iload_n 3, 1) := by decide +kernel
theorem d_law_340 : decode code 340 = .ok (.iconst 3, 1) := by decide +kernel
theorem d_law_341 : decode code 341 = .ok (.iadd, 1) := by decide +kernel
theorem d_law_342 : decode code 342 = .ok (.iaload, 1) := by decide +kernel
theorem d_law_343 : decode code 343 = .ok (.i2l, 1) := by decide +kernel
theorem d_law_344 : decode code 344 = .ok (.bipush 32, 2) := by decide +kernel
theorem d_law_346 : decode code 346 = .ok (.lshl, 1) := by decide +kernel
theorem d_law_347 : decode code 347 = .ok (.aload_n 0, 1) := by decide +kernel
theorem d_law_348 : decode code 348 = .ok (.iload_n 3, 1) := by decide +kernel
theorem d_law_349 : decode code 349 = .ok (.iconst 4, 1) := by decide +kernel
theorem d_law_350 : decode code 350 = .ok (.iadd, 1) := by decide +kernel
theorem d_law_351 : decode code 351 = .ok (.iaload, 1) := by decide +kernel
theorem d_law_352 : decode code 352 = .ok (.i2l, 1) := by decide +kernel
theorem d_law_353 : decode code 353 = .ok (.ldc2_w 18, 3) := by decide +kernel
theorem d_law_356 : decode code 356 = .ok (.land, 1) := by decide +kernel
theorem d_law_357 : decode code 357 = .ok (.lor, 1) := by decide +kernel
theorem d_law_358 : decode code 358 = .ok (.invokevirtual 34, 3) := by decide +kernel
theorem d_law_361 : decode code 361 = .ok (.if_icmp .eq 692, 3) := by decide +kernel
theorem d_law_364 : decode code 364 = .ok (.iconst 0, 1) := by decide +kernel
theorem d_law_365 : decode code 365 = .ok (.ireturn, 1) := by decide +kernel
theorem d_law_366 : decode code 366 = .ok (.aload_n 1, 1) := by decide +kernel
theorem d_law_367 : decode code 367 = .ok (.aload_n 0, 1) := by decide +kernel
theorem d_law_368 : decode code 368 = .ok (.iload_n 3, 1) := by decide +kernel
theorem d_law_369 : decode code 369 = .ok (.iconst 1, 1) := by decide +kernel
theorem d_law_370 : decode code 370 = .ok (.iadd, 1) := by decide +kernel
theorem d_law_371 : decode code 371 = .ok (.iaload, 1) := by decide +kernel
theorem d_law_372 : decode code 372 = .ok (.invokevirtual 35, 3) := by decide +kernel
theorem d_law_375 : decode code 375 = .ok (.aload_n 2, 1) := by decide +kernel
theorem d_law_376 : decode code 376 = .ok (.aload_n 0, 1) := by decide +kernel
theorem d_law_377 : decode code 377 = .ok (.iload_n 3, 1) := by decide +kernel
theorem d_law_378 : decode code 378 = .ok (.iconst 1, 1) := by decide +kernel
theorem d_law_379 : decode code 379 = .ok (.iadd, 1) := by decide +kernel
theorem d_law_380 : decode code 380 = .ok (.iaload, 1) := by decide +kernel
theorem d_law_381 : decode code 381 = .ok (.invokevirtual 39, 3) := by decide +kernel
theorem d_law_384 : decode code 384 = .ok (.lcmp, 1) := by decide +kernel
theorem d_law_385 : decode code 385 = .ok (.ifCond .eq 668, 3) := by decide +kernel
theorem d_law_388 : decode code 388 = .ok (.iconst 0, 1) := by decide +kernel
theorem d_law_389 : decode code 389 = .ok (.ireturn, 1) := by decide +kernel
theorem d_law_390 : decode code 390 = .ok (.aload_n 1, 1) := by decide +kernel
theorem d_law_391 : decode code 391 = .ok (.aload_n 0, 1) := by decide +kernel
theorem d_law_392 : decode code 392 = .ok (.iload_n 3, 1) := by decide +kernel
theorem d_law_393 : decode code 393 = .ok (.iconst 1, 1) := by decide +kernel
theorem d_law_394 : decode code 394 = .ok (.iadd, 1) := by decide +kernel
theorem d_law_395 : decode code 395 = .ok (.iaload, 1) := by decide +kernel
theorem d_law_396 : decode code 396 = .ok (.invokevirtual 40, 3) := by decide +kernel
theorem d_law_399 : decode code 399 = .ok (.aload_n 2, 1) := by decide +kernel
theorem d_law_400 : decode code 400 = .ok (.aload_n 0, 1) := by decide +kernel
theorem d_law_401 : decode code 401 = .ok (.iload_n 3, 1) := by decide +kernel
theorem d_law_402 : decode code 402 = .ok (.iconst 1, 1) := by decide +kernel
theorem d_law_403 : decode code 403 = .ok (.iadd, 1) := by decide +kernel
theorem d_law_404 : decode code 404 = .ok (.iaload, 1) := by decide +kernel
theorem d_law_405 : decode code 405 = .ok (.invokevirtual 44, 3) := by decide +kernel
theorem d_law_408 : decode code 408 = .ok (.if_icmp .eq 645, 3) := by decide +kernel
theorem d_law_411 : decode code 411 = .ok (.iconst 0, 1) := by decide +kernel
theorem d_law_412 : decode code 412 = .ok (.ireturn, 1) := by decide +kernel
theorem d_law_413 : decode code 413 = .ok (.aload_n 1, 1) := by decide +kernel
theorem d_law_414 : decode code 414 = .ok (.aload_n 0, 1) := by decide +kernel
theorem d_law_415 : decode code 415 = .ok (.iload_n 3, 1) := by decide +kernel
theorem d_law_416 : decode code 416 = .ok (.iconst 1, 1) := by decide +kernel
theorem d_law_417 : decode code 417 = .ok (.iadd, 1) := by decide +kernel
theorem d_law_418 : decode code 418 = .ok (.iaload, 1) := by decide +kernel
theorem d_law_419 : decode code 419 = .ok (.aload_n 0, 1) := by decide +kernel
theorem d_law_420 : decode code 420 = .ok (.iload_n 3, 1) := by decide +kernel
theorem d_law_421 : decode code 421 = .ok (.iconst 2, 1) := by decide +kernel
theorem d_law_422 : decode code 422 = .ok (.iadd, 1) := by decide +kernel
theorem d_law_423 : decode code 423 = .ok (.iaload, 1) := by decide +kernel
theorem d_law_424 : decode code 424 = .ok (.i2l, 1) := by decide +kernel
theorem d_law_425 : decode code 425 = .ok (.bipush 32, 2) := by decide +kernel
theorem d_law_427 : decode code 427 = .ok (.lshl, 1) := by decide +kernel
theorem d_law_428 : decode code 428 = .ok (.aload_n 0, 1) := by decide +kernel
theorem d_law_429 : decode code 429 = .ok (.iload_n 3, 1) := by decide +kernel
theorem d_law_430 : decode code 430 = .ok (.iconst 3, 1) := by decide +kernel
theorem d_law_431 : decode code 431 = .ok (.iadd, 1) := by decide +kernel
theorem d_law_432 : decode code 432 = .ok (.iaload, 1) := by decide +kernel
theorem d_law_433 : decode code 433 = .ok (.i2l, 1) := by decide +kernel
theorem d_law_434 : decode code 434 = .ok (.ldc2_w 18, 3) := by decide +kernel
theorem d_law_437 : decode code 437 = .ok (.land, 1) := by decide +kernel
theorem d_law_438 : decode code 438 = .ok (.lor, 1) := by decide +kernel
theorem d_law_439 : decode code 439 = .ok (.aload_n 0, 1) := by decide +kernel
theorem d_law_440 : decode code 440 = .ok (.iload_n 3, 1) := by decide +kernel
theorem d_law_441 : decode code 441 = .ok (.iconst 4, 1) := by decide +kernel
theorem d_law_442 : decode code 442 = .ok (.iadd, 1) := by decide +kernel
theorem d_law_443 : decode code 443 = .ok (.iaload, 1) := by decide +kernel
theorem d_law_444 : decode code 444 = .ok (.i2l, 1) := by decide +kernel
theorem d_law_445 : decode code 445 = .ok (.bipush 32, 2) := by decide +kernel
theorem d_law_447 : decode code 447 = .ok (.lshl, 1) := by decide +kernel
theorem d_law_448 : decode code 448 = .ok (.aload_n 0, 1) := by decide +kernel
theorem d_law_449 : decode code 449 = .ok (.iload_n 3, 1) := by decide +kernel
theorem d_law_450 : decode code 450 = .ok (.iconst 5, 1) := by decide +kernel
theorem d_law_451 : decode code 451 = .ok (.iadd, 1) := by decide +kernel
theorem d_law_452 : decode code 452 = .ok (.iaload, 1) := by decide +kernel
theorem d_law_453 : decode code 453 = .ok (.i2l, 1) := by decide +kernel
theorem d_law_454 : decode code 454 = .ok (.ldc2_w 18, 3) := by decide +kernel
theorem d_law_457 : decode code 457 = .ok (.land, 1) := by decide +kernel
theorem d_law_458 : decode code 458 = .ok (.lor, 1) := by decide +kernel
theorem d_law_459 : decode code 459 = .ok (.invokevirtual 45, 3) := by decide +kernel
theorem d_law_462 : decode code 462 = .ok (.aload_n 2, 1) := by decide +kernel
theorem d_law_463 : decode code 463 = .ok (.aload_n 0, 1) := by decide +kernel
theorem d_law_464 : decode code 464 = .ok (.iload_n 3, 1) := by decide +kernel
theorem d_law_465 : decode code 465 = .ok (.iconst 1, 1) := by decide +kernel
theorem d_law_466 : decode code 466 = .ok (.iadd, 1) := by decide +kernel
theorem d_law_467 : decode code 467 = .ok (.iaload, 1) := by decide +kernel
theorem d_law_468 : decode code 468 = .ok (.aload_n 0, 1) := by decide +kernel
theorem d_law_469 : decode code 469 = .ok (.iload_n 3, 1) := by decide +kernel
theorem d_law_470 : decode code 470 = .ok (.iconst 2, 1) := by decide +kernel
theorem d_law_471 : decode code 471 = .ok (.iadd, 1) := by decide +kernel
theorem d_law_472 : decode code 472 = .ok (.iaload, 1) := by decide +kernel
theorem d_law_473 : decode code 473 = .ok (.i2l, 1) := by decide +kernel
theorem d_law_474 : decode code 474 = .ok (.bipush 32, 2) := by decide +kernel
theorem d_law_476 : decode code 476 = .ok (.lshl, 1) := by decide +kernel
theorem d_law_477 : decode code 477 = .ok (.aload_n 0, 1) := by decide +kernel
theorem d_law_478 : decode code 478 = .ok (.iload_n 3, 1) := by decide +kernel
theorem d_law_479 : decode code 479 = .ok (.iconst 3, 1) := by decide +kernel
theorem d_law_480 : decode code 480 = .ok (.iadd, 1) := by decide +kernel
theorem d_law_481 : decode code 481 = .ok (.iaload, 1) := by decide +kernel
theorem d_law_482 : decode code 482 = .ok (.i2l, 1) := by decide +kernel
theorem d_law_483 : decode code 483 = .ok (.ldc2_w 18, 3) := by decide +kernel
theorem d_law_486 : decode code 486 = .ok (.land, 1) := by decide +kernel
theorem d_law_487 : decode code 487 = .ok (.lor, 1) := by decide +kernel
theorem d_law_488 : decode code 488 = .ok (.aload_n 0, 1) := by decide +kernel
theorem d_law_489 : decode code 489 = .ok (.iload_n 3, 1) := by decide +kernel
theorem d_law_490 : decode code 490 = .ok (.iconst 4, 1) := by decide +kernel
theorem d_law_491 : decode code 491 = .ok (.iadd, 1) := by decide +kernel
theorem d_law_492 : decode code 492 = .ok (.iaload, 1) := by decide +kernel
theorem d_law_493 : decode code 493 = .ok (.i2l, 1) := by decide +kernel
theorem d_law_494 : decode code 494 = .ok (.bipush 32, 2) := by decide +kernel
theorem d_law_496 : decode code 496 = .ok (.lshl, 1) := by decide +kernel
theorem d_law_497 : decode code 497 = .ok (.aload_n 0, 1) := by decide +kernel
theorem d_law_498 : decode code 498 = .ok (.iload_n 3, 1) := by decide +kernel
theorem d_law_499 : decode code 499 = .ok (.iconst 5, 1) := by decide +kernel
theorem d_law_500 : decode code 500 = .ok (.iadd, 1) := by decide +kernel
theorem d_law_501 : decode code 501 = .ok (.iaload, 1) := by decide +kernel
theorem d_law_502 : decode code 502 = .ok (.i2l, 1) := by decide +kernel
theorem d_law_503 : decode code 503 = .ok (.ldc2_w 18, 3) := by decide +kernel
theorem d_law_506 : decode code 506 = .ok (.land, 1) := by decide +kernel
theorem d_law_507 : decode code 507 = .ok (.lor, 1) := by decide +kernel
theorem d_law_508 : decode code 508 = .ok (.invokevirtual 49, 3) := by decide +kernel
theorem d_law_511 : decode code 511 = .ok (.if_icmp .eq 542, 3) := by decide +kernel
theorem d_law_514 : decode code 514 = .ok (.iconst 0, 1) := by decide +kernel
theorem d_law_515 : decode code 515 = .ok (.ireturn, 1) := by decide +kernel
theorem d_law_516 : decode code 516 = .ok (.aload_n 1, 1) := by decide +kernel
theorem d_law_517 : decode code 517 = .ok (.aload_n 0, 1) := by decide +kernel
theorem d_law_518 : decode code 518 = .ok (.iload_n 3, 1) := by decide +kernel
theorem d_law_519 : decode code 519 = .ok (.iconst 1, 1) := by decide +kernel
theorem d_law_520 : decode code 520 = .ok (.iadd, 1) := by decide +kernel
theorem d_law_521 : decode code 521 = .ok (.iaload, 1) := by decide +kernel
theorem d_law_522 : decode code 522 = .ok (.aload_n 0, 1) := by decide +kernel
theorem d_law_523 : decode code 523 = .ok (.iload_n 3, 1) := by decide +kernel
theorem d_law_524 : decode code 524 = .ok (.iconst 2, 1) := by decide +kernel
theorem d_law_525 : decode code 525 = .ok (.iadd, 1) := by decide +kernel
theorem d_law_526 : decode code 526 = .ok (.iaload, 1) := by decide +kernel
theorem d_law_527 : decode code 527 = .ok (.aload_n 0, 1) := by decide +kernel
theorem d_law_528 : decode code 528 = .ok (.iload_n 3, 1) := by decide +kernel
theorem d_law_529 : decode code 529 = .ok (.iconst 3, 1) := by decide +kernel
theorem d_law_530 : decode code 530 = .ok (.iadd, 1) := by decide +kernel
theorem d_law_531 : decode code 531 = .ok (.iaload, 1) := by decide +kernel
theorem d_law_532 : decode code 532 = .ok (.invokevirtual 50, 3) := by decide +kernel
theorem d_law_535 : decode code 535 = .ok (.aload_n 2, 1) := by decide +kernel
theorem d_law_536 : decode code 536 = .ok (.aload_n 0, 1) := by decide +kernel
theorem d_law_537 : decode code 537 = .ok (.iload_n 3, 1) := by decide +kernel
theorem d_law_538 : decode code 538 = .ok (.iconst 1, 1) := by decide +kernel
theorem d_law_539 : decode code 539 = .ok (.iadd, 1) := by decide +kernel
theorem d_law_540 : decode code 540 = .ok (.iaload, 1) := by decide +kernel
theorem d_law_541 : decode code 541 = .ok (.aload_n 0, 1) := by decide +kernel
theorem d_law_542 : decode code 542 = .ok (.iload_n 3, 1) := by decide +kernel
theorem d_law_543 : decode code 543 = .ok (.iconst 2, 1) := by decide +kernel
theorem d_law_544 : decode code 544 = .ok (.iadd, 1) := by decide +kernel
theorem d_law_545 : decode code 545 = .ok (.iaload, 1) := by decide +kernel
theorem d_law_546 : decode code 546 = .ok (.aload_n 0, 1) := by decide +kernel
theorem d_law_547 : decode code 547 = .ok (.iload_n 3, 1) := by decide +kernel
theorem d_law_548 : decode code 548 = .ok (.iconst 3, 1) := by decide +kernel
theorem d_law_549 : decode code 549 = .ok (.iadd, 1) := by decide +kernel
theorem d_law_550 : decode code 550 = .ok (.iaload, 1) := by decide +kernel
theorem d_law_551 : decode code 551 = .ok (.invokevirtual 54, 3) := by decide +kernel
theorem d_law_554 : decode code 554 = .ok (.if_icmp .eq 499, 3) := by decide +kernel
theorem d_law_557 : decode code 557 = .ok (.iconst 0, 1) := by decide +kernel
theorem d_law_558 : decode code 558 = .ok (.ireturn, 1) := by decide +kernel
theorem d_law_559 : decode code 559 = .ok (.aload_n 1, 1) := by decide +kernel
theorem d_law_560 : decode code 560 = .ok (.invokevirtual 55, 3) := by decide +kernel
theorem d_law_563 : decode code 563 = .ok (.aload_n 2, 1) := by decide +kernel
theorem d_law_564 : decode code 564 = .ok (.invokevirtual 59, 3) := by decide +kernel
theorem d_law_567 : decode code 567 = .ok (.if_icmp .eq 486, 3) := by decide +kernel
theorem d_law_570 : decode code 570 = .ok (.iconst 0, 1) := by decide +kernel
theorem d_law_571 : decode code 571 = .ok (.ireturn, 1) := by decide +kernel
theorem d_law_572 : decode code 572 = .ok (.aload_n 1, 1) := by decide +kernel
theorem d_law_573 : decode code 573 = .ok (.aload_n 0, 1) := by decide +kernel
theorem d_law_574 : decode code 574 = .ok (.iload_n 3, 1) := by decide +kernel
theorem d_law_575 : decode code 575 = .ok (.iconst 1, 1) := by decide +kernel
theorem d_law_576 : decode code 576 = .ok (.iadd, 1) := by decide +kernel
theorem d_law_577 : decode code 577 = .ok (.iaload, 1) := by decide +kernel
theorem d_law_578 : decode code 578 = .ok (.invokevirtual 60, 3) := by decide +kernel
theorem d_law_581 : decode code 581 = .ok (.aload_n 2, 1) := by decide +kernel
theorem d_law_582 : decode code 582 = .ok (.aload_n 0, 1) := by decide +kernel
theorem d_law_583 : decode code 583 = .ok (.iload_n 3, 1) := by decide +kernel
theorem d_law_584 : decode code 584 = .ok (.iconst 1, 1) := by decide +kernel
theorem d_law_585 : decode code 585 = .ok (.iadd, 1) := by decide +kernel
theorem d_law_586 : decode code 586 = .ok (.iaload, 1) := by decide +kernel
theorem d_law_587 : decode code 587 = .ok (.invokevirtual 63, 3) := by decide +kernel
theorem d_law_590 : decode code 590 = .ok (.if_icmp .eq 463, 3) := by decide +kernel
theorem d_law_593 : decode code 593 = .ok (.iconst 0, 1) := by decide +kernel
theorem d_law_594 : decode code 594 = .ok (.ireturn, 1) := by decide +kernel
theorem d_law_595 : decode code 595 = .ok (.aload_n 1, 1) := by decide +kernel
theorem d_law_596 : decode code 596 = .ok (.invokevirtual 64, 3) := by decide +kernel
theorem d_law_599 : decode code 599 = .ok (.aload_n 2, 1) := by decide +kernel
theorem d_law_600 : decode code 600 = .ok (.invokevirtual 68, 3) := by decide +kernel
theorem d_law_603 : decode code 603 = .ok (.lcmp, 1) := by decide +kernel
theorem d_law_604 : decode code 604 = .ok (.ifCond .eq 449, 3) := by decide +kernel
theorem d_law_607 : decode code 607 = .ok (.iconst 0, 1) := by decide +kernel
theorem d_law_608 : decode code 608 = .ok (.ireturn, 1) := by decide +kernel
theorem d_law_609 : decode code 609 = .ok (.aload_n 1, 1) := by decide +kernel
theorem d_law_610 : decode code 610 = .ok (.aload_n 0, 1) := by decide +kernel
theorem d_law_611 : decode code 611 = .ok (.iload_n 3, 1) := by decide +kernel
theorem d_law_612 : decode code 612 = .ok (.iconst 1, 1) := by decide +kernel
theorem d_law_613 : decode code 613 = .ok (.iadd, 1) := by decide +kernel
theorem d_law_614 : decode code 614 = .ok (.iaload, 1) := by decide +kernel
theorem d_law_615 : decode code 615 = .ok (.aload_n 0, 1) := by decide +kernel
theorem d_law_616 : decode code 616 = .ok (.iload_n 3, 1) := by decide +kernel
theorem d_law_617 : decode code 617 = .ok (.iconst 2, 1) := by decide +kernel
theorem d_law_618 : decode code 618 = .ok (.iadd, 1) := by decide +kernel
theorem d_law_619 : decode code 619 = .ok (.iaload, 1) := by decide +kernel
theorem d_law_620 : decode code 620 = .ok (.invokevirtual 69, 3) := by decide +kernel
theorem d_law_623 : decode code 623 = .ok (.aload_n 2, 1) := by decide +kernel
theorem d_law_624 : decode code 624 = .ok (.aload_n 0, 1) := by decide +kernel
theorem d_law_625 : decode code 625 = .ok (.iload_n 3, 1) := by decide +kernel
theorem d_law_626 : decode code 626 = .ok (.iconst 1, 1) := by decide +kernel
theorem d_law_627 : decode code 627 = .ok (.iadd, 1) := by decide +kernel
theorem d_law_628 : decode code 628 = .ok (.iaload, 1) := by decide +kernel
theorem d_law_629 : decode code 629 = .ok (.aload_n 0, 1) := by decide +kernel
theorem d_law_630 : decode code 630 = .ok (.iload_n 3, 1) := by decide +kernel
theorem d_law_631 : decode code 631 = .ok (.iconst 2, 1) := by decide +kernel
theorem d_law_632 : decode code 632 = .ok (.iadd, 1) := by decide +kernel
theorem d_law_633 : decode code 633 = .ok (.iaload, 1) := by decide +kernel
theorem d_law_634 : decode code 634 = .ok (.invokevirtual 73, 3) := by decide +kernel
theorem d_law_637 : decode code 637 = .ok (.lcmp, 1) := by decide +kernel
theorem d_law_638 : decode code 638 = .ok (.ifCond .eq 415, 3) := by decide +kernel
theorem d_law_641 : decode code 641 = .ok (.iconst 0, 1) := by decide +kernel
theorem d_law_642 : decode code 642 = .ok (.ireturn, 1) := by decide +kernel
theorem d_law_643 : decode code 643 = .ok (.aload_n 1, 1) := by decide +kernel
theorem d_law_644 : decode code 644 = .ok (.aload_n 0, 1) := by decide +kernel
theorem d_law_645 : decode code 645 = .ok (.iload_n 3, 1) := by decide +kernel
theorem d_law_646 : decode code 646 = .ok (.iconst 1, 1) := by decide +kernel
theorem d_law_647 : decode code 647 = .ok (.iadd, 1) := by decide +kernel
theorem d_law_648 : decode code 648 = .ok (.iaload, 1) := by decide +kernel
theorem d_law_649 : decode code 649 = .ok (.aload_n 0, 1) := by decide +kernel
theorem d_law_650 : decode code 650 = .ok (.iload_n 3, 1) := by decide +kernel
theorem d_law_651 : decode code 651 = .ok (.iconst 2, 1) := by decide +kernel
theorem d_law_652 : decode code 652 = .ok (.iadd, 1) := by decide +kernel
theorem d_law_653 : decode code 653 = .ok (.iaload, 1) := by decide +kernel
theorem d_law_654 : decode code 654 = .ok (.invokevirtual 74, 3) := by decide +kernel
theorem d_law_657 : decode code 657 = .ok (.aload_n 2, 1) := by decide +kernel
theorem d_law_658 : decode code 658 = .ok (.aload_n 0, 1) := by decide +kernel
theorem d_law_659 : decode code 659 = .ok (.iload_n 3, 1) := by decide +kernel
theorem d_law_660 : decode code 660 = .ok (.iconst 1, 1) := by decide +kernel
theorem d_law_661 : decode code 661 = .ok (.iadd, 1) := by decide +kernel
theorem d_law_662 : decode code 662 = .ok (.iaload, 1) := by decide +kernel
theorem d_law_663 : decode code 663 = .ok (.aload_n 0, 1) := by decide +kernel
theorem d_law_664 : decode code 664 = .ok (.iload_n 3, 1) := by decide +kernel
theorem d_law_665 : decode code 665 = .ok (.iconst 2, 1) := by decide +kernel
theorem d_law_666 : decode code 666 = .ok (.iadd, 1) := by decide +kernel
theorem d_law_667 : decode code 667 = .ok (.iaload, 1) := by decide +kernel
theorem d_law_668 : decode code 668 = .ok (.invokevirtual 78, 3) := by decide +kernel
theorem d_law_671 : decode code 671 = .ok (.if_icmp .eq 382, 3) := by decide +kernel
theorem d_law_674 : decode code 674 = .ok (.iconst 0, 1) := by decide +kernel
theorem d_law_675 : decode code 675 = .ok (.ireturn, 1) := by decide +kernel
theorem d_law_676 : decode code 676 = .ok (.aload_n 1, 1) := by decide +kernel
theorem d_law_677 : decode code 677 = .ok (.invokevirtual 79, 3) := by decide +kernel
theorem d_law_680 : decode code 680 = .ok (.aload_n 2, 1) := by decide +kernel
theorem d_law_681 : decode code 681 = .ok (.invokevirtual 82, 3) := by decide +kernel
theorem d_law_684 : decode code 684 = .ok (.if_icmp .eq 369, 3) := by decide +kernel
theorem d_law_687 : decode code 687 = .ok (.iconst 0, 1) := by decide +kernel
theorem d_law_688 : decode code 688 = .ok (.ireturn, 1) := by decide +kernel
theorem d_law_689 : decode code 689 = .ok (.aload_n 1, 1) := by decide +kernel
theorem d_law_690 : decode code 690 = .ok (.aload_n 0, 1) := by decide +kernel
theorem d_law_691 : decode code 691 = .ok (.iload_n 3, 1) := by decide +kernel
theorem d_law_692 : decode code 692 = .ok (.iconst 1, 1) := by decide +kernel
theorem d_law_693 : decode code 693 = .ok (.iadd, 1) := by decide +kernel
theorem d_law_694 : decode code 694 = .ok (.iaload, 1) := by decide +kernel
theorem d_law_695 : decode code 695 = .ok (.aload_n 0, 1) := by decide +kernel
theorem d_law_696 : decode code 696 = .ok (.iload_n 3, 1) := by decide +kernel
theorem d_law_697 : decode code 697 = .ok (.iconst 2, 1) := by decide +kernel
theorem d_law_698 : decode code 698 = .ok (.iadd, 1) := by decide +kernel
theorem d_law_699 : decode code 699 = .ok (.iaload, 1) := by decide +kernel
theorem d_law_700 : decode code 700 = .ok (.aload_n 0, 1) := by decide +kernel
theorem d_law_701 : decode code 701 = .ok (.iload_n 3, 1) := by decide +kernel
theorem d_law_702 : decode code 702 = .ok (.iconst 3, 1) := by decide +kernel
theorem d_law_703 : decode code 703 = .ok (.iadd, 1) := by decide +kernel
theorem d_law_704 : decode code 704 = .ok (.iaload, 1) := by decide +kernel
theorem d_law_705 : decode code 705 = .ok (.invokevirtual 83, 3) := by decide +kernel
theorem d_law_708 : decode code 708 = .ok (.aload_n 2, 1) := by decide +kernel
theorem d_law_709 : decode code 709 = .ok (.aload_n 0, 1) := by decide +kernel
theorem d_law_710 : decode code 710 = .ok (.iload_n 3, 1) := by decide +kernel
theorem d_law_711 : decode code 711 = .ok (.iconst 1, 1) := by decide +kernel
theorem d_law_712 : decode code 712 = .ok (.iadd, 1) := by decide +kernel
theorem d_law_713 : decode code 713 = .ok (.iaload, 1) := by decide +kernel
theorem d_law_714 : decode code 714 = .ok (.aload_n 0, 1) := by decide +kernel
theorem d_law_715 : decode code 715 = .ok (.iload_n 3, 1) := by decide +kernel
theorem d_law_716 : decode code 716 = .ok (.iconst 2, 1) := by decide +kernel
theorem d_law_717 : decode code 717 = .ok (.iadd, 1) := by decide +kernel
theorem d_law_718 : decode code 718 = .ok (.iaload, 1) := by decide +kernel
theorem d_law_719 : decode code 719 = .ok (.aload_n 0, 1) := by decide +kernel
theorem d_law_720 : decode code 720 = .ok (.iload_n 3, 1) := by decide +kernel
theorem d_law_721 : decode code 721 = .ok (.iconst 3, 1) := by decide +kernel
theorem d_law_722 : decode code 722 = .ok (.iadd, 1) := by decide +kernel
theorem d_law_723 : decode code 723 = .ok (.iaload, 1) := by decide +kernel
theorem d_law_724 : decode code 724 = .ok (.invokevirtual 86, 3) := by decide +kernel
theorem d_law_727 : decode code 727 = .ok (.if_icmp .eq 326, 3) := by decide +kernel
theorem d_law_730 : decode code 730 = .ok (.iconst 0, 1) := by decide +kernel
theorem d_law_731 : decode code 731 = .ok (.ireturn, 1) := by decide +kernel
theorem d_law_732 : decode code 732 = .ok (.aload_n 1, 1) := by decide +kernel
theorem d_law_733 : decode code 733 = .ok (.invokevirtual 87, 3) := by decide +kernel
theorem d_law_736 : decode code 736 = .ok (.aload_n 2, 1) := by decide +kernel
theorem d_law_737 : decode code 737 = .ok (.invokevirtual 90, 3) := by decide +kernel
theorem d_law_740 : decode code 740 = .ok (.if_icmp .eq 313, 3) := by decide +kernel
theorem d_law_743 : decode code 743 = .ok (.iconst 0, 1) := by decide +kernel
theorem d_law_744 : decode code 744 = .ok (.ireturn, 1) := by decide +kernel
theorem d_law_745 : decode code 745 = .ok (.aload_n 1, 1) := by decide +kernel
theorem d_law_746 : decode code 746 = .ok (.invokevirtual 91, 3) := by decide +kernel
theorem d_law_749 : decode code 749 = .ok (.aload_n 2, 1) := by decide +kernel
theorem d_law_750 : decode code 750 = .ok (.invokevirtual 94, 3) := by decide +kernel
theorem d_law_753 : decode code 753 = .ok (.lcmp, 1) := by decide +kernel
theorem d_law_754 : decode code 754 = .ok (.ifCond .eq 299, 3) := by decide +kernel
theorem d_law_757 : decode code 757 = .ok (.iconst 0, 1) := by decide +kernel
theorem d_law_758 : decode code 758 = .ok (.ireturn, 1) := by decide +kernel
theorem d_law_759 : decode code 759 = .ok (.aload_n 1, 1) := by decide +kernel
theorem d_law_760 : decode code 760 = .ok (.aload_n 0, 1) := by decide +kernel
theorem d_law_761 : decode code 761 = .ok (.iload_n 3, 1) := by decide +kernel
theorem d_law_762 : decode code 762 = .ok (.iconst 1, 1) := by decide +kernel
theorem d_law_763 : decode code 763 = .ok (.iadd, 1) := by decide +kernel
theorem d_law_764 : decode code 764 = .ok (.iaload, 1) := by decide +kernel
theorem d_law_765 : decode code 765 = .ok (.invokevirtual 95, 3) := by decide +kernel
theorem d_law_768 : decode code 768 = .ok (.aload_n 2, 1) := by decide +kernel
theorem d_law_769 : decode code 769 = .ok (.aload_n 0, 1) := by decide +kernel
theorem d_law_770 : decode code 770 = .ok (.iload_n 3, 1) := by decide +kernel
theorem d_law_771 : decode code 771 = .ok (.iconst 1, 1) := by decide +kernel
theorem d_law_772 : decode code 772 = .ok (.iadd, 1) := by decide +kernel
theorem d_law_773 : decode code 773 = .ok (.iaload, 1) := by decide +kernel
theorem d_law_774 : decode code 774 = .ok (.invokevirtual 98, 3) := by decide +kernel
theorem d_law_777 : decode code 777 = .ok (.if_icmp .eq 276, 3) := by decide +kernel
theorem d_law_780 : decode code 780 = .ok (.iconst 0, 1) := by decide +kernel
theorem d_law_781 : decode code 781 = .ok (.ireturn, 1) := by decide +kernel
theorem d_law_782 : decode code 782 = .ok (.aload_n 1, 1) := by decide +kernel
theorem d_law_783 : decode code 783 = .ok (.aload_n 0, 1) := by decide +kernel
theorem d_law_784 : decode code 784 = .ok (.iload_n 3, 1) := by decide +kernel
theorem d_law_785 : decode code 785 = .ok (.iconst 1, 1) := by decide +kernel
theorem d_law_786 : decode code 786 = .ok (.iadd, 1) := by decide +kernel
theorem d_law_787 : decode code 787 = .ok (.iaload, 1) := by decide +kernel
theorem d_law_788 : decode code 788 = .ok (.aload_n 0, 1) := by decide +kernel
theorem d_law_789 : decode code 789 = .ok (.iload_n 3, 1) := by decide +kernel
theorem d_law_790 : decode code 790 = .ok (.iconst 2, 1) := by decide +kernel
theorem d_law_791 : decode code 791 = .ok (.iadd, 1) := by decide +kernel
theorem d_law_792 : decode code 792 = .ok (.iaload, 1) := by decide +kernel
theorem d_law_793 : decode code 793 = .ok (.invokevirtual 99, 3) := by decide +kernel
theorem d_law_796 : decode code 796 = .ok (.aload_n 2, 1) := by decide +kernel
theorem d_law_797 : decode code 797 = .ok (.aload_n 0, 1) := by decide +kernel
theorem d_law_798 : decode code 798 = .ok (.iload_n 3, 1) := by decide +kernel
theorem d_law_799 : decode code 799 = .ok (.iconst 1, 1) := by decide +kernel
theorem d_law_800 : decode code 800 = .ok (.iadd, 1) := by decide +kernel
theorem d_law_801 : decode code 801 = .ok (.iaload, 1) := by decide +kernel
theorem d_law_802 : decode code 802 = .ok (.aload_n 0, 1) := by decide +kernel
theorem d_law_803 : decode code 803 = .ok (.iload_n 3, 1) := by decide +kernel
theorem d_law_804 : decode code 804 = .ok (.iconst 2, 1) := by decide +kernel
theorem d_law_805 : decode code 805 = .ok (.iadd, 1) := by decide +kernel
theorem d_law_806 : decode code 806 = .ok (.iaload, 1) := by decide +kernel
theorem d_law_807 : decode code 807 = .ok (.invokevirtual 103, 3) := by decide +kernel
theorem d_law_810 : decode code 810 = .ok (.if_icmp .eq 243, 3) := by decide +kernel
theorem d_law_813 : decode code 813 = .ok (.iconst 0, 1) := by decide +kernel
theorem d_law_814 : decode code 814 = .ok (.ireturn, 1) := by decide +kernel
theorem d_law_815 : decode code 815 = .ok (.aload_n 1, 1) := by decide +kernel
theorem d_law_816 : decode code 816 = .ok (.aload_n 0, 1) := by decide +kernel
theorem d_law_817 : decode code 817 = .ok (.iload_n 3, 1) := by decide +kernel
theorem d_law_818 : decode code 818 = .ok (.iconst 1, 1) := by decide +kernel
theorem d_law_819 : decode code 819 = .ok (.iadd, 1) := by decide +kernel
theorem d_law_820 : decode code 820 = .ok (.iaload, 1) := by decide +kernel
theorem d_law_821 : decode code 821 = .ok (.invokevirtual 104, 3) := by decide +kernel
theorem d_law_824 : decode code 824 = .ok (.aload_n 2, 1) := by decide +kernel
theorem d_law_825 : decode code 825 = .ok (.aload_n 0, 1) := by decide +kernel
theorem d_law_826 : decode code 826 = .ok (.iload_n 3, 1) := by decide +kernel
theorem d_law_827 : decode code 827 = .ok (.iconst 1, 1) := by decide +kernel
theorem d_law_828 : decode code 828 = .ok (.iadd, 1) := by decide +kernel
theorem d_law_829 : decode code 829 = .ok (.iaload, 1) := by decide +kernel
theorem d_law_830 : decode code 830 = .ok (.invokevirtual 107, 3) := by decide +kernel
theorem d_law_833 : decode code 833 = .ok (.if_icmp .eq 220, 3) := by decide +kernel
theorem d_law_836 : decode code 836 = .ok (.iconst 0, 1) := by decide +kernel
theorem d_law_837 : decode code 837 = .ok (.ireturn, 1) := by decide +kernel
theorem d_law_838 : decode code 838 = .ok (.aload_n 1, 1) := by decide +kernel
theorem d_law_839 : decode code 839 = .ok (.aload_n 0, 1) := by decide +kernel
theorem d_law_840 : decode code 840 = .ok (.iload_n 3, 1) := by decide +kernel
theorem d_law_841 : decode code 841 = .ok (.iconst 1, 1) := by decide +kernel
theorem d_law_842 : decode code 842 = .ok (.iadd, 1) := by decide +kernel
theorem d_law_843 : decode code 843 = .ok (.iaload, 1) := by decide +kernel
theorem d_law_844 : decode code 844 = .ok (.aload_n 0, 1) := by decide +kernel
theorem d_law_845 : decode code 845 = .ok (.iload_n 3, 1) := by decide +kernel
theorem d_law_846 : decode code 846 = .ok (.iconst 2, 1) := by decide +kernel
theorem d_law_847 : decode code 847 = .ok (.iadd, 1) := by decide +kernel
theorem d_law_848 : decode code 848 = .ok (.iaload, 1) := by decide +kernel
theorem d_law_849 : decode code 849 = .ok (.i2l, 1) := by decide +kernel
theorem d_law_850 : decode code 850 = .ok (.bipush 32, 2) := by decide +kernel
theorem d_law_852 : decode code 852 = .ok (.lshl, 1) := by decide +kernel
theorem d_law_853 : decode code 853 = .ok (.aload_n 0, 1) := by decide +kernel
theorem d_law_854 : decode code 854 = .ok (.iload_n 3, 1) := by decide +kernel
theorem d_law_855 : decode code 855 = .ok (.iconst 3, 1) := by decide +kernel
theorem d_law_856 : decode code 856 = .ok (.iadd, 1) := by decide +kernel
theorem d_law_857 : decode code 857 = .ok (.iaload, 1) := by decide +kernel
theorem d_law_858 : decode code 858 = .ok (.i2l, 1) := by decide +kernel
theorem d_law_859 : decode code 859 = .ok (.ldc2_w 18, 3) := by decide +kernel
theorem d_law_862 : decode code 862 = .ok (.land, 1) := by decide +kernel
theorem d_law_863 : decode code 863 = .ok (.lor, 1) := by decide +kernel
theorem d_law_864 : decode code 864 = .ok (.aload_n 0, 1) := by decide +kernel
theorem d_law_865 : decode code 865 = .ok (.iload_n 3, 1) := by decide +kernel
theorem d_law_866 : decode code 866 = .ok (.iconst 4, 1) := by decide +kernel
theorem d_law_867 : decode code 867 = .ok (.iadd, 1) := by decide +kernel
theorem d_law_868 : decode code 868 = .ok (.iaload, 1) := by decide +kernel
theorem d_law_869 : decode code 869 = .ok (.i2l, 1) := by decide +kernel
theorem d_law_870 : decode code 870 = .ok (.bipush 32, 2) := by decide +kernel
theorem d_law_872 : decode code 872 = .ok (.lshl, 1) := by decide +kernel
theorem d_law_873 : decode code 873 = .ok (.aload_n 0, 1) := by decide +kernel
theorem d_law_874 : decode code 874 = .ok (.iload_n 3, 1) := by decide +kernel
theorem d_law_875 : decode code 875 = .ok (.iconst 5, 1) := by decide +kernel
theorem d_law_876 : decode code 876 = .ok (.iadd, 1) := by decide +kernel
theorem d_law_877 : decode code 877 = .ok (.iaload, 1) := by decide +kernel
theorem d_law_878 : decode code 878 = .ok (.i2l, 1) := by decide +kernel
theorem d_law_879 : decode code 879 = .ok (.ldc2_w 18, 3) := by decide +kernel
theorem d_law_882 : decode code 882 = .ok (.land, 1) := by decide +kernel
theorem d_law_883 : decode code 883 = .ok (.lor, 1) := by decide +kernel
theorem d_law_884 : decode code 884 = .ok (.invokevirtual 108, 3) := by decide +kernel
theorem d_law_887 : decode code 887 = .ok (.aload_n 2, 1) := by decide +kernel
theorem d_law_888 : decode code 888 = .ok (.aload_n 0, 1) := by decide +kernel
theorem d_law_889 : decode code 889 = .ok (.iload_n 3, 1) := by decide +kernel
theorem d_law_890 : decode code 890 = .ok (.iconst 1, 1) := by decide +kernel
theorem d_law_891 : decode code 891 = .ok (.iadd, 1) := by decide +kernel
theorem d_law_892 : decode code 892 = .ok (.iaload, 1) := by decide +kernel
theorem d_law_893 : decode code 893 = .ok (.aload_n 0, 1) := by decide +kernel
theorem d_law_894 : decode code 894 = .ok (.iload_n 3, 1) := by decide +kernel
theorem d_law_895 : decode code 895 = .ok (.iconst 2, 1) := by decide +kernel
theorem d_law_896 : decode code 896 = .ok (.iadd, 1) := by decide +kernel
theorem d_law_897 : decode code 897 = .ok (.iaload, 1) := by decide +kernel
theorem d_law_898 : decode code 898 = .ok (.i2l, 1) := by decide +kernel
theorem d_law_899 : decode code 899 = .ok (.bipush 32, 2) := by decide +kernel
theorem d_law_901 : decode code 901 = .ok (.lshl, 1) := by decide +kernel
theorem d_law_902 : decode code 902 = .ok (.aload_n 0, 1) := by decide +kernel
theorem d_law_903 : decode code 903 = .ok (.iload_n 3, 1) := by decide +kernel
theorem d_law_904 : decode code 904 = .ok (.iconst 3, 1) := by decide +kernel
theorem d_law_905 : decode code 905 = .ok (.iadd, 1) := by decide +kernel
theorem d_law_906 : decode code 906 = .ok (.iaload, 1) := by decide +kernel
theorem d_law_907 : decode code 907 = .ok (.i2l, 1) := by decide +kernel
theorem d_law_908 : decode code 908 = .ok (.ldc2_w 18, 3) := by decide +kernel
theorem d_law_911 : decode code 911 = .ok (.land, 1) := by decide +kernel
theorem d_law_912 : decode code 912 = .ok (.lor, 1) := by decide +kernel
theorem d_law_913 : decode code 913 = .ok (.aload_n 0, 1) := by decide +kernel
theorem d_law_914 : decode code 914 = .ok (.iload_n 3, 1) := by decide +kernel
theorem d_law_915 : decode code 915 = .ok (.iconst 4, 1) := by decide +kernel
theorem d_law_916 : decode code 916 = .ok (.iadd, 1) := by decide +kernel
theorem d_law_917 : decode code 917 = .ok (.iaload, 1) := by decide +kernel
theorem d_law_918 : decode code 918 = .ok (.i2l, 1) := by decide +kernel
theorem d_law_919 : decode code 919 = .ok (.bipush 32, 2) := by decide +kernel
theorem d_law_921 : decode code 921 = .ok (.lshl, 1) := by decide +kernel
theorem d_law_922 : decode code 922 = .ok (.aload_n 0, 1) := by decide +kernel
theorem d_law_923 : decode code 923 = .ok (.iload_n 3, 1) := by decide +kernel
theorem d_law_924 : decode code 924 = .ok (.iconst 5, 1) := by decide +kernel
theorem d_law_925 : decode code 925 = .ok (.iadd, 1) := by decide +kernel
theorem d_law_926 : decode code 926 = .ok (.iaload, 1) := by decide +kernel
theorem d_law_927 : decode code 927 = .ok (.i2l, 1) := by decide +kernel
theorem d_law_928 : decode code 928 = .ok (.ldc2_w 18, 3) := by decide +kernel
theorem d_law_931 : decode code 931 = .ok (.land, 1) := by decide +kernel
theorem d_law_932 : decode code 932 = .ok (.lor, 1) := by decide +kernel
theorem d_law_933 : decode code 933 = .ok (.invokevirtual 111, 3) := by decide +kernel
theorem d_law_936 : decode code 936 = .ok (.if_icmp .eq 117, 3) := by decide +kernel
theorem d_law_939 : decode code 939 = .ok (.iconst 0, 1) := by decide +kernel
theorem d_law_940 : decode code 940 = .ok (.ireturn, 1) := by decide +kernel
theorem d_law_941 : decode code 941 = .ok (.aload_n 1, 1) := by decide +kernel
theorem d_law_942 : decode code 942 = .ok (.aload_n 0, 1) := by decide +kernel
theorem d_law_943 : decode code 943 = .ok (.iload_n 3, 1) := by decide +kernel
theorem d_law_944 : decode code 944 = .ok (.iconst 1, 1) := by decide +kernel
theorem d_law_945 : decode code 945 = .ok (.iadd, 1) := by decide +kernel
theorem d_law_946 : decode code 946 = .ok (.iaload, 1) := by decide +kernel
theorem d_law_947 : decode code 947 = .ok (.invokevirtual 112, 3) := by decide +kernel
theorem d_law_950 : decode code 950 = .ok (.aload_n 2, 1) := by decide +kernel
theorem d_law_951 : decode code 951 = .ok (.aload_n 0, 1) := by decide +kernel
theorem d_law_952 : decode code 952 = .ok (.iload_n 3, 1) := by decide +kernel
theorem d_law_953 : decode code 953 = .ok (.iconst 1, 1) := by decide +kernel
theorem d_law_954 : decode code 954 = .ok (.iadd, 1) := by decide +kernel
theorem d_law_955 : decode code 955 = .ok (.iaload, 1) := by decide +kernel
theorem d_law_956 : decode code 956 = .ok (.invokevirtual 115, 3) := by decide +kernel
theorem d_law_959 : decode code 959 = .ok (.if_icmp .eq 94, 3) := by decide +kernel
theorem d_law_962 : decode code 962 = .ok (.iconst 0, 1) := by decide +kernel
theorem d_law_963 : decode code 963 = .ok (.ireturn, 1) := by decide +kernel
theorem d_law_964 : decode code 964 = .ok (.aload_n 1, 1) := by decide +kernel
theorem d_law_965 : decode code 965 = .ok (.aload_n 0, 1) := by decide +kernel
theorem d_law_966 : decode code 966 = .ok (.iload_n 3, 1) := by decide +kernel
theorem d_law_967 : decode code 967 = .ok (.iconst 1, 1) := by decide +kernel
theorem d_law_968 : decode code 968 = .ok (.iadd, 1) := by decide +kernel
theorem d_law_969 : decode code 969 = .ok (.iaload, 1) := by decide +kernel
theorem d_law_970 : decode code 970 = .ok (.aload_n 0, 1) := by decide +kernel
theorem d_law_971 : decode code 971 = .ok (.iload_n 3, 1) := by decide +kernel
theorem d_law_972 : decode code 972 = .ok (.iconst 2, 1) := by decide +kernel
theorem d_law_973 : decode code 973 = .ok (.iadd, 1) := by decide +kernel
theorem d_law_974 : decode code 974 = .ok (.iaload, 1) := by decide +kernel
theorem d_law_975 : decode code 975 = .ok (.aload_n 0, 1) := by decide +kernel
theorem d_law_976 : decode code 976 = .ok (.iload_n 3, 1) := by decide +kernel
theorem d_law_977 : decode code 977 = .ok (.iconst 3, 1) := by decide +kernel
theorem d_law_978 : decode code 978 = .ok (.iadd, 1) := by decide +kernel
theorem d_law_979 : decode code 979 = .ok (.iaload, 1) := by decide +kernel
theorem d_law_980 : decode code 980 = .ok (.invokevirtual 116, 3) := by decide +kernel
theorem d_law_983 : decode code 983 = .ok (.aload_n 2, 1) := by decide +kernel
theorem d_law_984 : decode code 984 = .ok (.aload_n 0, 1) := by decide +kernel
theorem d_law_985 : decode code 985 = .ok (.iload_n 3, 1) := by decide +kernel
theorem d_law_986 : decode code 986 = .ok (.iconst 1, 1) := by decide +kernel
theorem d_law_987 : decode code 987 = .ok (.iadd, 1) := by decide +kernel
theorem d_law_988 : decode code 988 = .ok (.iaload, 1) := by decide +kernel
theorem d_law_989 : decode code 989 = .ok (.aload_n 0, 1) := by decide +kernel
theorem d_law_990 : decode code 990 = .ok (.iload_n 3, 1) := by decide +kernel
theorem d_law_991 : decode code 991 = .ok (.iconst 2, 1) := by decide +kernel
theorem d_law_992 : decode code 992 = .ok (.iadd, 1) := by decide +kernel
theorem d_law_993 : decode code 993 = .ok (.iaload, 1) := by decide +kernel
theorem d_law_994 : decode code 994 = .ok (.aload_n 0, 1) := by decide +kernel
theorem d_law_995 : decode code 995 = .ok (.iload_n 3, 1) := by decide +kernel
theorem d_law_996 : decode code 996 = .ok (.iconst 3, 1) := by decide +kernel
theorem d_law_997 : decode code 997 = .ok (.iadd, 1) := by decide +kernel
theorem d_law_998 : decode code 998 = .ok (.iaload, 1) := by decide +kernel
theorem d_law_999 : decode code 999 = .ok (.invokevirtual 119, 3) := by decide +kernel
theorem d_law_1002 : decode code 1002 = .ok (.if_icmp .eq 51, 3) := by decide +kernel
theorem d_law_1005 : decode code 1005 = .ok (.iconst 0, 1) := by decide +kernel
theorem d_law_1006 : decode code 1006 = .ok (.ireturn, 1) := by decide +kernel
theorem d_law_1007 : decode code 1007 = .ok (.aload_n 1, 1) := by decide +kernel
theorem d_law_1008 : decode code 1008 = .ok (.aload_n 0, 1) := by decide +kernel
theorem d_law_1009 : decode code 1009 = .ok (.iload_n 3, 1) := by decide +kernel
theorem d_law_1010 : decode code 1010 = .ok (.iconst 1, 1) := by decide +kernel
theorem d_law_1011 : decode code 1011 = .ok (.iadd, 1) := by decide +kernel
theorem d_law_1012 : decode code 1012 = .ok (.iaload, 1) := by decide +kernel
theorem d_law_1013 : decode code 1013 = .ok (.invokevirtual 120, 3) := by decide +kernel
theorem d_law_1016 : decode code 1016 = .ok (.aload_n 2, 1) := by decide +kernel
theorem d_law_1017 : decode code 1017 = .ok (.aload_n 0, 1) := by decide +kernel
theorem d_law_1018 : decode code 1018 = .ok (.iload_n 3, 1) := by decide +kernel
theorem d_law_1019 : decode code 1019 = .ok (.iconst 1, 1) := by decide +kernel
theorem d_law_1020 : decode code 1020 = .ok (.iadd, 1) := by decide +kernel
theorem d_law_1021 : decode code 1021 = .ok (.iaload, 1) := by decide +kernel
theorem d_law_1022 : decode code 1022 = .ok (.invokevirtual 123, 3) := by decide +kernel
theorem d_law_1025 : decode code 1025 = .ok (.if_icmp .eq 28, 3) := by decide +kernel
theorem d_law_1028 : decode code 1028 = .ok (.iconst 0, 1) := by decide +kernel
theorem d_law_1029 : decode code 1029 = .ok (.ireturn, 1) := by decide +kernel
theorem d_law_1030 : decode code 1030 = .ok (.aload_n 1, 1) := by decide +kernel
theorem d_law_1031 : decode code 1031 = .ok (.aload_n 0, 1) := by decide +kernel
theorem d_law_1032 : decode code 1032 = .ok (.iload_n 3, 1) := by decide +kernel
theorem d_law_1033 : decode code 1033 = .ok (.iconst 1, 1) := by decide +kernel
theorem d_law_1034 : decode code 1034 = .ok (.iadd, 1) := by decide +kernel
theorem d_law_1035 : decode code 1035 = .ok (.iaload, 1) := by decide +kernel
theorem d_law_1036 : decode code 1036 = .ok (.invokevirtual 124, 3) := by decide +kernel
theorem d_law_1039 : decode code 1039 = .ok (.aload_n 2, 1) := by decide +kernel
theorem d_law_1040 : decode code 1040 = .ok (.aload_n 0, 1) := by decide +kernel
theorem d_law_1041 : decode code 1041 = .ok (.iload_n 3, 1) := by decide +kernel
theorem d_law_1042 : decode code 1042 = .ok (.iconst 1, 1) := by decide +kernel
theorem d_law_1043 : decode code 1043 = .ok (.iadd, 1) := by decide +kernel
theorem d_law_1044 : decode code 1044 = .ok (.iaload, 1) := by decide +kernel
theorem d_law_1045 : decode code 1045 = .ok (.invokevirtual 127, 3) := by decide +kernel
theorem d_law_1048 : decode code 1048 = .ok (.if_icmp .eq 5, 3) := by decide +kernel
theorem d_law_1051 : decode code 1051 = .ok (.iconst 0, 1) := by decide +kernel
theorem d_law_1052 : decode code 1052 = .ok (.ireturn, 1) := by decide +kernel
theorem d_law_1053 : decode code 1053 = .ok (.iinc 3 6, 3) := by decide +kernel
theorem d_law_1056 : decode code 1056 = .ok (.goto (-1038), 3) := by decide +kernel
theorem d_law_1059 : decode code 1059 = .ok (.iconst 1, 1) := by decide +kernel
theorem d_law_1060 : decode code 1060 = .ok (.ireturn, 1) := by decide +kernel
