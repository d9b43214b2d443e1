set_option maxHeartbeats 4000000 in
set_option maxRecDepth 100000 in
/-- of -/
theorem law_of {p : Program} {l : Launch} {e : Env} {s : State} {m : MethodId} {below : List Frame} {meth : Method} {c : Code} {b L : Nat} {xs : Nat → Int32} {D : va_G} {kC : Nat → ClassId} {eD i cc sc : Nat} {cs : CS} {ms : MS} {H : Heap} {locs : List Loc} {ls : Array Slot} (h : LwH p s m meth c b L xs D kC eD i cc sc cs ms H locs ls) (kk : lwK p l e s m below meth c b D kC eD cc sc cs ms ls) : W p l e room_1 s m #[Value.ref b] below meth c H locs cc sc (lw_Z below #[Value.ref b] s) (F0 m 572 ls []) := by
  obtain ⟨⟨hx, hb, hr, hml, hown, hts, hX0, hbl, hlocks, hgv⟩, hK, hz, hL, hi, h3, h17, R, hP, hD, hS, hl⟩ := h
  have hX := hX0
  have hA : ∀ q : Nat, s.heap.size ≤ q → (fun q : Nat => s.heap.size ≤ q) q := fun _ h => h
  have hbA : ¬ (fun q : Nat => s.heap.size ≤ q) b := Nat.not_le.mpr hbl
  have hzw : zW s := hz.2.2
  refine lv_aload_n hx hb d_law_572 rfl (lv_at hl 1 rfl) ?_
  refine lv_aload_n hx hb d_law_573 rfl (lv_at hl 0 rfl) ?_
  refine lv_iload_n hx hb d_law_574 rfl (lv_at hl 3 rfl) ?_
  refine lv_iconst (v := nI 1) hx hb d_law_575 (by decide) ?_
  refine nv_iadd hx hb d_law_576 ?_
  refine va_sld hx hb hX hbl hbA hS (vp_in_nI (by omega) (by omega)) d_law_577 ?_
  refine nv_topi (y := xs (i + 1)) (congrArg xs (nI_clamp (by omega))) ?_
  have hPx : va_P D cls (fl (cL kC eD cs)) H := fl_P hP 0 rfl
  have hrx := f_recv (ci := 0) (q0 := 0) hK hPx 0 rfl rfl rfl
  refine r_calli (W.runV (As := [.int (xs (i + 1))]) (rest := []) ⟨hx, hb, hml, hown, hts⟩ (c_P_of l D kC cs.ad cs.qR cs.lp cs.la cs.lj cs.qM cs.qN cs.ft cs.wr cs.tl cs.tn cs.bo cs.lD cs.td cs.sh cs.be cs.ob cs.os cs.oc cs.ar cs.gi cs.pg cs.ag cs.mp cs.ma cs.prn cs.mtot (xs (i + 1)) R.hma) (cwV 1 hts g_law_P_of rfl rfl rfl (by decide +kernel) ⟨Nat.le_of_ble_eq_true rfl, Nat.le_of_ble_eq_true rfl⟩) (r_preV hrx hK (fl_sub hPx [0, 10] rfl)) rfl rfl hl.1 rfl (lv_room (Nat.le_of_ble_eq_true rfl)) d_law_578 ⟨rmC h3 0 0 (by decide), rmS h17 0 0 (by decide)⟩) ?_
  refine lv_aload_n hx hb d_law_581 rfl (lv_at hl 2 rfl) ?_
  refine lv_aload_n hx hb d_law_582 rfl (lv_at hl 0 rfl) ?_
  refine lv_iload_n hx hb d_law_583 rfl (lv_at hl 3 rfl) ?_
  refine lv_iconst (v := nI 1) hx hb d_law_584 (by decide) ?_
  refine nv_iadd hx hb d_law_585 ?_
  refine va_sld hx hb hX hbl hbA hS (vp_in_nI (by omega) (by omega)) d_law_586 ?_
  refine nv_topi (y := xs (i + 1)) (congrArg xs (nI_clamp (by omega))) ?_
  have hPx : va_P D cls (fl (mL kC cs ms)) H := fl_P hP 1 rfl
  have hrx := f_recv (ci := 7) (q0 := 0) hK hPx 0 rfl rfl rfl
  refine r_calli (W.runV (As := [.int (xs (i + 1))]) (rest := [.int _]) ⟨hx, hb, hml, hown, hts⟩ (c_O_of l D kC ms.ad cs.td cs.rn cs.pn cs.an cs.jn cs.tn ms.bm ms.fw ms.gp ms.ga ms.bp ms.fc ms.fj cs.rA cs.rC cs.ft cs.kd cs.aG cs.sR cs.sT ms.wh cs.dY cs.pd cs.cN cs.mN ms.sv ms.nd cs.wr ms.tl ms.lt ms.lT cs.lD ms.gv ms.gn ms.od ms.br (xs (i + 1))) (cwV 1 hts g_law_O_of rfl rfl rfl (by decide +kernel) ⟨Nat.le_of_ble_eq_true rfl, Nat.le_of_ble_eq_true rfl⟩) (r_preV hrx hK hPx) rfl rfl hl.1 rfl (lv_room (Nat.le_of_ble_eq_true rfl)) d_law_587 ⟨rmC h3 0 0 (by decide), rmS h17 0 0 (by decide)⟩) ?_
  refine lv_icmp_eq (tgt := 1053) hx hb d_law_590 (by decide) (fun _ => ?_) (fun z9 => absurd (an_of R (xs (i + 1))) z9)
  refine W.widen (k := cc + 3) (n := sc + 17) (by omega) (by omega) ?_
  exact kk cs ms H locs R rfl rfl hP hD hS
set_option maxHeartbeats 4000000 in
set_option maxRecDepth 100000 in
/-- worth -/
theorem law_worth {p : Program} {l : Launch} {e : Env} {s : State} {m : MethodId} {below : List Frame} {meth : Method} {c : Code} {b L : Nat} {xs : Nat → Int32} {D : va_G} {kC : Nat → ClassId} {eD i cc sc : Nat} {cs : CS} {ms : MS} {H : Heap} {locs : List Loc} {ls : Array Slot} (h : LwH p s m meth c b L xs D kC eD i cc sc cs ms H locs ls) (kk : lwK p l e s m below meth c b D kC eD cc sc cs ms ls) : W p l e room_1 s m #[Value.ref b] below meth c H locs cc sc (lw_Z below #[Value.ref b] s) (F0 m 595 ls []) := by
  obtain ⟨⟨hx, hb, hr, hml, hown, hts, hX0, hbl, hlocks, hgv⟩, hK, hz, hL, hi, h3, h17, R, hP, hD, hS, hl⟩ := h
  have hX := hX0
  have hA : ∀ q : Nat, s.heap.size ≤ q → (fun q : Nat => s.heap.size ≤ q) q := fun _ h => h
  have hbA : ¬ (fun q : Nat => s.heap.size ≤ q) b := Nat.not_le.mpr hbl
  have hzw : zW s := hz.2.2
  refine lv_aload_n hx hb d_law_595 rfl (lv_at hl 1 rfl) ?_
  have hPx : va_P D cls (fl (cL kC eD cs)) H := fl_P hP 0 rfl
  have hrx := f_recv (ci := 0) (q0 := 0) hK hPx 0 rfl rfl rfl
  refine r_calll (W.runV (As := []) (rest := []) ⟨hx, hb, hml, hown, hts⟩ (c_P_worth l D kC cs.ad cs.qR cs.lp cs.la cs.lj cs.qM cs.qN cs.ft cs.wr cs.tl cs.tn cs.bo cs.lD cs.td cs.sh cs.be cs.ob cs.os cs.oc cs.ar cs.gi cs.pg cs.ag cs.mp cs.ma cs.prn cs.mtot) (cwV 0 hts g_law_P_worth rfl rfl rfl (by decide +kernel) ⟨Nat.le_of_ble_eq_true rfl, Nat.le_of_ble_eq_true rfl⟩) (r_preV hrx hK (fl_sub hPx [0, 10] rfl)) rfl rfl hl.1 rfl (lv_room (Nat.le_of_ble_eq_true rfl)) d_law_596 ⟨rmC h3 0 0 (by decide), rmS h17 0 0 (by decide)⟩) ?_
  refine lv_aload_n hx hb d_law_599 rfl (lv_at hl 2 rfl) ?_
  have hPx : va_P D cls (fl (mL kC cs ms)) H := fl_P hP 1 rfl
  have hrx := f_recv (ci := 7) (q0 := 0) hK hPx 0 rfl rfl rfl
  refine r_calll (W.runV (As := []) (rest := [.long _]) ⟨hx, hb, hml, hown, hts⟩ (c_O_worth l D kC ms.ad cs.td cs.rn cs.pn cs.an cs.jn cs.tn ms.bm ms.fw ms.gp ms.ga ms.bp ms.fc ms.fj cs.rA cs.rC cs.ft cs.kd cs.aG cs.sR cs.sT ms.wh cs.dY cs.pd cs.cN cs.mN ms.sv ms.nd cs.wr ms.tl ms.lt ms.lT cs.lD ms.gv ms.gn ms.od ms.br) (cwV 0 hts g_law_O_worth rfl rfl rfl (by decide +kernel) ⟨Nat.le_of_ble_eq_true rfl, Nat.le_of_ble_eq_true rfl⟩) (r_preV hrx hK hPx) rfl rfl hl.1 rfl (lv_room (Nat.le_of_ble_eq_true rfl)) d_law_600 ⟨rmC h3 0 0 (by decide), rmS h17 0 0 (by decide)⟩) ?_
  refine lc_eq (tgt := 1053) hx hb d_law_603 d_law_604 (by decide) (fun _ => ?_) (fun z9 => absurd (R.lmt) z9)
  refine W.widen (k := cc + 3) (n := sc + 17) (by omega) (by omega) ?_
  exact kk cs ms H locs R rfl rfl hP hD hS
set_option maxHeartbeats 4000000 in
set_option maxRecDepth 100000 in
/-- gain -/
theorem law_gain {p : Program} {l : Launch} {e : Env} {s : State} {m : MethodId} {below : List Frame} {meth : Method} {c : Code} {b L : Nat} {xs : Nat → Int32} {D : va_G} {kC : Nat → ClassId} {eD i cc sc : Nat} {cs : CS} {ms : MS} {H : Heap} {locs : List Loc} {ls : Array Slot} (h : LwH p s m meth c b L xs D kC eD i cc sc cs ms H locs ls) (kk : lwK p l e s m below meth c b D kC eD cc sc cs ms ls) : W p l e room_1 s m #[Value.ref b] below meth c H locs cc sc (lw_Z below #[Value.ref b] s) (F0 m 609 ls []) := by
  obtain ⟨⟨hx, hb, hr, hml, hown, hts, hX0, hbl, hlocks, hgv⟩, hK, hz, hL, hi, h3, h17, R, hP, hD, hS, hl⟩ := h
  have hX := hX0
  have hA : ∀ q : Nat, s.heap.size ≤ q → (fun q : Nat => s.heap.size ≤ q) q := fun _ h => h
  have hbA : ¬ (fun q : Nat => s.heap.size ≤ q) b := Nat.not_le.mpr hbl
  have hzw : zW s := hz.2.2
  refine lv_aload_n hx hb d_law_609 rfl (lv_at hl 1 rfl) ?_
  refine lv_aload_n hx hb d_law_610 rfl (lv_at hl 0 rfl) ?_
  refine lv_iload_n hx hb d_law_611 rfl (lv_at hl 3 rfl) ?_
  refine lv_iconst (v := nI 1) hx hb d_law_612 (by decide) ?_
  refine nv_iadd hx hb d_law_613 ?_
  refine va_sld hx hb hX hbl hbA hS (vp_in_nI (by omega) (by omega)) d_law_614 ?_
  refine nv_topi (y := xs (i + 1)) (congrArg xs (nI_clamp (by omega))) ?_
  refine lv_aload_n hx hb d_law_615 rfl (lv_at hl 0 rfl) ?_
  refine lv_iload_n hx hb d_law_616 rfl (lv_at hl 3 rfl) ?_
  refine lv_iconst (v := nI 2) hx hb d_law_617 (by decide) ?_
  refine nv_iadd hx hb d_law_618 ?_
  refine va_sld hx hb hX hbl hbA hS (vp_in_nI (by omega) (by omega)) d_law_619 ?_
  refine nv_topi (y := xs (i + 2)) (congrArg xs (nI_clamp (by omega))) ?_
  have hPx : va_P D cls (fl (cL kC eD cs)) H := fl_P hP 0 rfl
  have hrx := f_recv (ci := 0) (q0 := 0) hK hPx 0 rfl rfl rfl
  refine r_calll (W.runV (As := [.int (xs (i + 1)), .int (xs (i + 2))]) (rest := []) ⟨hx, hb, hml, hown, hts⟩ (c_P_gain l D kC cs.ad cs.qR cs.lp cs.la cs.lj cs.qM cs.qN cs.ft cs.wr cs.tl cs.tn cs.bo cs.lD cs.td cs.sh cs.be cs.ob cs.os cs.oc cs.ar cs.gi cs.pg cs.ag cs.mp cs.ma cs.prn cs.mtot (xs (i + 1)) (xs (i + 2)) R.hmp R.hma) (cwV 2 hts g_law_P_gain rfl rfl rfl (by decide +kernel) ⟨Nat.le_of_ble_eq_true rfl, Nat.le_of_ble_eq_true rfl⟩) (r_preV hrx hK (fl_sub hPx [0, 10] rfl)) rfl rfl hl.1 rfl (lv_room (Nat.le_of_ble_eq_true rfl)) d_law_620 ⟨rmC h3 0 0 (by decide), rmS h17 0 0 (by decide)⟩) ?_
  refine lv_aload_n hx hb d_law_623 rfl (lv_at hl 2 rfl) ?_
  refine lv_aload_n hx hb d_law_624 rfl (lv_at hl 0 rfl) ?_
  refine lv_iload_n hx hb d_law_625 rfl (lv_at hl 3 rfl) ?_
  refine lv_iconst (v := nI 1) hx hb d_law_626 (by decide) ?_
  refine nv_iadd hx hb d_law_627 ?_
  refine va_sld hx hb hX hbl hbA hS (vp_in_nI (by omega) (by omega)) d_law_628 ?_
  refine nv_topi (y := xs (i + 1)) (congrArg xs (nI_clamp (by omega))) ?_
  refine lv_aload_n hx hb d_law_629 rfl (lv_at hl 0 rfl) ?_
  refine lv_iload_n hx hb d_law_630 rfl (lv_at hl 3 rfl) ?_
  refine lv_iconst (v := nI 2) hx hb d_law_631 (by decide) ?_
  refine nv_iadd hx hb d_law_632 ?_
  refine va_sld hx hb hX hbl hbA hS (vp_in_nI (by omega) (by omega)) d_law_633 ?_
  refine nv_topi (y := xs (i + 2)) (congrArg xs (nI_clamp (by omega))) ?_
  have hPx : va_P D cls (fl (mL kC cs ms)) H := fl_P hP 1 rfl
  have hrx := f_recv (ci := 7) (q0 := 0) hK hPx 0 rfl rfl rfl
  refine r_calll (W.runV (As := [.int (xs (i + 1)), .int (xs (i + 2))]) (rest := [.long _]) ⟨hx, hb, hml, hown, hts⟩ (c_O_gain l D kC ms.ad cs.td cs.rn cs.pn cs.an cs.jn cs.tn ms.bm ms.fw ms.gp ms.ga ms.bp ms.fc ms.fj cs.rA cs.rC cs.ft cs.kd cs.aG cs.sR cs.sT ms.wh cs.dY cs.pd cs.cN cs.mN ms.sv ms.nd cs.wr ms.tl ms.lt ms.lT cs.lD ms.gv ms.gn ms.od ms.br (xs (i + 1)) (xs (i + 2)) R.hgp R.hga) (cwV 2 hts g_law_O_gain rfl rfl rfl (by decide +kernel) ⟨Nat.le_of_ble_eq_true rfl, Nat.le_of_ble_eq_true rfl⟩) (r_preV hrx hK hPx) rfl rfl hl.1 rfl (lv_room (Nat.le_of_ble_eq_true rfl)) d_law_634 ⟨rmC h3 0 0 (by decide), rmS h17 0 0 (by decide)⟩) ?_
  refine lc_eq (tgt := 1053) hx hb d_law_637 d_law_638 (by decide) (fun _ => ?_) (fun z9 => absurd (an_gain R (xs (i + 1)) (xs (i + 2))) z9)
  refine W.widen (k := cc + 3) (n := sc + 17) (by omega) (by omega) ?_
  exact kk cs ms H locs R rfl rfl hP hD hS
