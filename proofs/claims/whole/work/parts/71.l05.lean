set_option maxHeartbeats 4000000 in
set_option maxRecDepth 100000 in
/-- match -/
theorem law_match {p : Program} {l : Launch} {e : Env} {s : State} {m : MethodId} {below : List Frame} {meth : Method} {c : Code} {b L : Nat} {xs : Nat → Int32} {D : va_G} {kC : Nat → ClassId} {eD i cc sc : Nat} {cs : CS} {ms : MS} {H : Heap} {locs : List Loc} {ls : Array Slot} (h : LwH p s m meth c b L xs D kC eD i cc sc cs ms H locs ls) (kk : lwK p l e s m below meth c b D kC eD cc sc cs ms ls) : W p l e room_1 s m #[Value.ref b] below meth c H locs cc sc (lw_Z below #[Value.ref b] s) (F0 m 559 ls []) := by
  obtain ⟨⟨hx, hb, hr, hml, hown, hts, hX0, hbl, hlocks, hgv⟩, hK, hz, hL, hi, h3, h17, R, hP, hD, hS, hl⟩ := h
  have hX := hX0
  have hA : ∀ q : Nat, s.heap.size ≤ q → (fun q : Nat => s.heap.size ≤ q) q := fun _ h => h
  have hbA : ¬ (fun q : Nat => s.heap.size ≤ q) b := Nat.not_le.mpr hbl
  have hzw : zW s := hz.2.2
  obtain ⟨arN, hM, har⟩ := mt_H R
  have hX := mt_hX hM
  refine lv_aload_n hx hb d_law_559 rfl (lv_at hl 1 rfl) ?_
  have hPx : va_P D cls (fl (cL kC eD cs)) H := fl_P hP 0 rfl
  have hrx := f_recv (ci := 0) (q0 := 0) hK hPx 0 rfl rfl rfl
  have hDx := fl_D hD 0 rfl
  refine g_calliG 0 (va_runV (As := []) (rest := []) ⟨hx, hb, hml, hown, hts⟩ (c_P_match l D kC cs.ad cs.qR cs.lp cs.la cs.lj cs.qM cs.qN cs.ft cs.wr cs.tl cs.tn cs.bo cs.lD cs.td cs.rA cs.rC cs.rn eD cs.mdp cs.xp cs.pn cs.pa cs.kd cs.aG cs.sR cs.sT cs.dY cs.pho cs.ppe cs.mda cs.xa cs.an cs.aa cs.anu cs.pd cs.cN cs.mN cs.aop cs.rr cs.fc cs.ntot cs.ch cs.fp cs.mdj cs.xj cs.jn cs.ja cs.jx cs.jne cs.sh cs.be cs.ob cs.os cs.oc cs.ar cs.gi cs.pg cs.ag cs.mp cs.ma cs.prn cs.mtot arN (cX cs) H.size R.hpn R.han R.hkd R.hpd R.hcN R.hmN (fun j hj => by rw [R.lnu j hj]; exact Nat.lt_of_lt_of_le hj R.han) R.hsT R.hdY R.htd R.hrn R.hrA R.haG R.hrC har hX.1 hX.2) (cwV 0 hts g_law_P_match rfl rfl rfl (by decide +kernel) ⟨Nat.le_of_ble_eq_true rfl, Nat.le_of_ble_eq_true rfl⟩) (z_preV hrx hz hS (fl_free hD hS hA 0 rfl) hK hPx hDx) rfl rfl hl.1 rfl (lv_room (Nat.le_of_ble_eq_true rfl)) d_law_560 ⟨rmC h3 0 0 (by decide), rmS h17 0 0 (by decide)⟩) hS hA hP hD rfl (fun H1 locs hP hD hS => ?_)
  refine lv_aload_n hx hb d_law_563 rfl (lv_at hl 2 rfl) ?_
  have hPx : va_P D cls (fl (mL kC cs ms)) H1 := fl_P hP 1 rfl
  have hrx := f_recv (ci := 7) (q0 := 0) hK hPx 0 rfl rfl rfl
  have hDx := fl_D hD 1 rfl
  refine g_calliG 1 (va_runV (As := []) (rest := [.int _]) ⟨hx, hb, hml, hown, hts⟩ (c_O_match l D kC ms.ad cs.td cs.rn cs.pn cs.an cs.jn cs.tn ms.bm ms.fw ms.gp ms.ga ms.bp ms.fc ms.fj cs.rA cs.rC cs.ft cs.kd cs.aG cs.sR cs.sT ms.wh cs.dY cs.pd cs.cN cs.mN ms.sv ms.nd cs.wr ms.tl ms.lt ms.lT cs.lD ms.gv ms.gn ms.od ms.br H1.size R.han R.hpn R.hsT R.hdY R.htd R.hrn R.hrA R.haG R.hkd R.hpd R.hcN R.hrC R.hwh R.hod R.hmN) (cwV 0 hts g_law_O_match rfl rfl rfl (by decide +kernel) ⟨Nat.le_of_ble_eq_true rfl, Nat.le_of_ble_eq_true rfl⟩) (g_preV hrx hK hPx hDx) rfl rfl hl.1 rfl (lv_room (Nat.le_of_ble_eq_true rfl)) d_law_564 ⟨rmC h3 0 0 (by decide), rmS h17 0 0 (by decide)⟩) hS hA hP hD rfl (fun H2 locs hP hD hS => ?_)
  refine lv_icmp_eq (tgt := 1053) hx hb d_law_567 (by decide) (fun _ => ?_) (fun z9 => absurd (an_match R hM) z9)
  refine W.widen (k := cc + 3) (n := sc + 17) (by omega) (by omega) ?_
  refine kk _ _ H2 locs (st_match R hM) (by rw [mkCS_ad]) (by rw [mkMS_ad]) ?_ ?_ hS
  · rw [lawW_cm]; exact hP
  · rw [lawW_cm]; exact hD
