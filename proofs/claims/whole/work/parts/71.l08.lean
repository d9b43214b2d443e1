set_option maxHeartbeats 4000000 in
set_option maxRecDepth 100000 in
/-- job -/
theorem law_job {p : Program} {l : Launch} {e : Env} {s : State} {m : MethodId} {below : List Frame} {meth : Method} {c : Code} {b L : Nat} {xs : Nat → Int32} {D : va_G} {kC : Nat → ClassId} {eD i cc sc : Nat} {cs : CS} {ms : MS} {H : Heap} {locs : List Loc} {ls : Array Slot} (h : LwH p s m meth c b L xs D kC eD i cc sc cs ms H locs ls) (kk : lwK p l e s m below meth c b D kC eD cc sc cs ms ls) : W p l e room_1 s m #[Value.ref b] below meth c H locs cc sc (lw_Z below #[Value.ref b] s) (F0 m 676 ls []) := by
  obtain ⟨⟨hx, hb, hr, hml, hown, hts, hX0, hbl, hlocks, hgv⟩, hK, hz, hL, hi, h3, h17, R, hP, hD, hS, hl⟩ := h
  have hX := hX0
  have hA : ∀ q : Nat, s.heap.size ≤ q → (fun q : Nat => s.heap.size ≤ q) q := fun _ h => h
  have hbA : ¬ (fun q : Nat => s.heap.size ≤ q) b := Nat.not_le.mpr hbl
  have hzw : zW s := hz.2.2
  refine lv_aload_n hx hb d_law_676 rfl (lv_at hl 1 rfl) ?_
  have hPx : va_P D cls (fl (cL kC eD cs)) H := fl_P hP 0 rfl
  have hrx := f_recv (ci := 0) (q0 := 0) hK hPx 0 rfl rfl rfl
  have hDx := fl_D hD 0 rfl
  refine g_calliSG 0 (va_runV (As := []) (rest := []) ⟨hx, hb, hml, hown, hts⟩ (c_P_job l D kC cs.ad cs.qR cs.lp cs.la cs.lj cs.qM cs.qN cs.ft cs.wr cs.tl cs.tn cs.bo cs.lD cs.td cs.rA cs.rC cs.rn eD cs.mdp cs.xp cs.pn cs.pa cs.kd cs.aG cs.sR cs.sT cs.dY cs.pho cs.ppe cs.mda cs.xa cs.an cs.aa cs.anu cs.pd cs.cN cs.mN cs.aop cs.rr cs.fc cs.ntot cs.ch cs.fp cs.mdj cs.xj cs.jn cs.ja cs.jx cs.jne cs.sh cs.be cs.ob cs.os cs.oc cs.ar cs.gi cs.pg cs.ag cs.mp cs.ma cs.prn cs.mtot H.size R.hjn) (cwV 0 hts g_law_P_job rfl rfl rfl (by decide +kernel) ⟨Nat.le_of_ble_eq_true rfl, Nat.le_of_ble_eq_true rfl⟩) (z_preV hrx hz hS (fl_free hD hS hA 0 rfl) hK hPx hDx) rfl rfl hl.1 rfl (lv_room (Nat.le_of_ble_eq_true rfl)) d_law_677 ⟨rmC h3 0 3 (by decide), rmS h17 0 17 (by decide)⟩) hS hA hP hD rfl (fun rr9 u H1 locs hu hP hD hS => ?_)
  obtain rfl := hu
  refine lv_aload_n hx hb d_law_680 rfl (lv_at hl 2 rfl) ?_
  have hPx : va_P D cls (fl (mL kC cs ms)) H1 := fl_P hP 1 rfl
  have hrx := f_recv (ci := 7) (q0 := 0) hK hPx 0 rfl rfl rfl
  have hDx := fl_D hD 1 rfl
  refine g_calliG 1 (va_runV (As := []) (rest := [.int _]) ⟨hx, hb, hml, hown, hts⟩ (c_O_job l D kC ms.ad cs.td cs.rn cs.pn cs.an cs.jn cs.tn ms.bm ms.fw ms.gp ms.ga ms.bp ms.fc ms.fj cs.rA cs.rC cs.ft cs.kd cs.aG cs.sR cs.sT ms.wh cs.dY cs.pd cs.cN cs.mN ms.sv ms.nd cs.wr ms.tl ms.lt ms.lT cs.lD ms.gv ms.gn ms.od ms.br H1.size R.hjn) (cwV 0 hts g_law_O_job rfl rfl rfl (by decide +kernel) ⟨Nat.le_of_ble_eq_true rfl, Nat.le_of_ble_eq_true rfl⟩) (g_preV hrx hK hPx hDx) rfl rfl hl.1 rfl (lv_room (Nat.le_of_ble_eq_true rfl)) d_law_681 ⟨rmC h3 3 0 (by decide), rmS h17 17 0 (by decide)⟩) hS hA hP hD rfl (fun H2 locs hP hD hS => ?_)
  refine lv_icmp_eq (tgt := 1053) hx hb d_law_684 (by decide) (fun _ => ?_) (fun z9 => absurd (rfl) z9)
  refine W.widen (k := cc + 3) (n := sc + 17) (by omega) (by omega) ?_
  refine kk _ ms H2 locs (st_job R u.1 u.2.1 u.2.2.1 u.2.2.2) (by rw [mkCS_ad]) rfl ?_ ?_ hS
  · rw [lawW_c]; exact hP
  · rw [lawW_c]; exact hD
set_option maxHeartbeats 4000000 in
set_option maxRecDepth 100000 in
/-- needs -/
theorem law_needs {p : Program} {l : Launch} {e : Env} {s : State} {m : MethodId} {below : List Frame} {meth : Method} {c : Code} {b L : Nat} {xs : Nat → Int32} {D : va_G} {kC : Nat → ClassId} {eD i cc sc : Nat} {cs : CS} {ms : MS} {H : Heap} {locs : List Loc} {ls : Array Slot} (h : LwH p s m meth c b L xs D kC eD i cc sc cs ms H locs ls) (kk : lwK p l e s m below meth c b D kC eD cc sc cs ms ls) : W p l e room_1 s m #[Value.ref b] below meth c H locs cc sc (lw_Z below #[Value.ref b] s) (F0 m 689 ls []) := by
  obtain ⟨⟨hx, hb, hr, hml, hown, hts, hX0, hbl, hlocks, hgv⟩, hK, hz, hL, hi, h3, h17, R, hP, hD, hS, hl⟩ := h
  have hX := hX0
  have hA : ∀ q : Nat, s.heap.size ≤ q → (fun q : Nat => s.heap.size ≤ q) q := fun _ h => h
  have hbA : ¬ (fun q : Nat => s.heap.size ≤ q) b := Nat.not_le.mpr hbl
  have hzw : zW s := hz.2.2
  refine lv_aload_n hx hb d_law_689 rfl (lv_at hl 1 rfl) ?_
  refine lv_aload_n hx hb d_law_690 rfl (lv_at hl 0 rfl) ?_
  refine lv_iload_n hx hb d_law_691 rfl (lv_at hl 3 rfl) ?_
  refine lv_iconst (v := nI 1) hx hb d_law_692 (by decide) ?_
  refine nv_iadd hx hb d_law_693 ?_
  refine va_sld hx hb hX hbl hbA hS (vp_in_nI (by omega) (by omega)) d_law_694 ?_
  refine nv_topi (y := xs (i + 1)) (congrArg xs (nI_clamp (by omega))) ?_
  refine lv_aload_n hx hb d_law_695 rfl (lv_at hl 0 rfl) ?_
  refine lv_iload_n hx hb d_law_696 rfl (lv_at hl 3 rfl) ?_
  refine lv_iconst (v := nI 2) hx hb d_law_697 (by decide) ?_
  refine nv_iadd hx hb d_law_698 ?_
  refine va_sld hx hb hX hbl hbA hS (vp_in_nI (by omega) (by omega)) d_law_699 ?_
  refine nv_topi (y := xs (i + 2)) (congrArg xs (nI_clamp (by omega))) ?_
  refine lv_aload_n hx hb d_law_700 rfl (lv_at hl 0 rfl) ?_
  refine lv_iload_n hx hb d_law_701 rfl (lv_at hl 3 rfl) ?_
  refine lv_iconst (v := nI 3) hx hb d_law_702 (by decide) ?_
  refine nv_iadd hx hb d_law_703 ?_
  refine va_sld hx hb hX hbl hbA hS (vp_in_nI (by omega) (by omega)) d_law_704 ?_
  refine nv_topi (y := xs (i + 3)) (congrArg xs (nI_clamp (by omega))) ?_
  have hPx : va_P D cls (fl (cL kC eD cs)) H := fl_P hP 0 rfl
  have hrx := f_recv (ci := 0) (q0 := 0) hK hPx 0 rfl rfl rfl
  have hDx := fl_D hD 0 rfl
  refine g_calliG 0 (va_runV (As := [.int (xs (i + 1)), .int (xs (i + 2)), .int (xs (i + 3))]) (rest := []) ⟨hx, hb, hml, hown, hts⟩ (c_P_needs l D kC cs.ad cs.qR cs.lp cs.la cs.lj cs.qM cs.qN cs.ft cs.wr cs.tl cs.tn cs.bo cs.lD cs.td cs.rA cs.rC cs.rn eD cs.mdp cs.xp cs.pn cs.pa cs.kd cs.aG cs.sR cs.sT cs.dY cs.pho cs.ppe cs.mda cs.xa cs.an cs.aa cs.anu cs.pd cs.cN cs.mN cs.aop cs.rr cs.fc cs.ntot cs.ch cs.fp cs.mdj cs.xj cs.jn cs.ja cs.jx cs.jne cs.sh cs.be cs.ob cs.os cs.oc cs.ar cs.gi cs.pg cs.ag cs.mp cs.ma cs.prn cs.mtot (xs (i + 1)) (xs (i + 2)) (xs (i + 3)) H.size R.hjn) (cwV 3 hts g_law_P_needs rfl rfl rfl (by decide +kernel) ⟨Nat.le_of_ble_eq_true rfl, Nat.le_of_ble_eq_true rfl⟩) (z_preV hrx hz hS (fl_free hD hS hA 0 rfl) hK hPx hDx) rfl rfl hl.1 rfl (lv_room (Nat.le_of_ble_eq_true rfl)) d_law_705 ⟨rmC h3 0 0 (by decide), rmS h17 0 0 (by decide)⟩) hS hA hP hD rfl (fun H1 locs hP hD hS => ?_)
  refine lv_aload_n hx hb d_law_708 rfl (lv_at hl 2 rfl) ?_
  refine lv_aload_n hx hb d_law_709 rfl (lv_at hl 0 rfl) ?_
  refine lv_iload_n hx hb d_law_710 rfl (lv_at hl 3 rfl) ?_
  refine lv_iconst (v := nI 1) hx hb d_law_711 (by decide) ?_
  refine nv_iadd hx hb d_law_712 ?_
  refine va_sld hx hb hX hbl hbA hS (vp_in_nI (by omega) (by omega)) d_law_713 ?_
  refine nv_topi (y := xs (i + 1)) (congrArg xs (nI_clamp (by omega))) ?_
  refine lv_aload_n hx hb d_law_714 rfl (lv_at hl 0 rfl) ?_
  refine lv_iload_n hx hb d_law_715 rfl (lv_at hl 3 rfl) ?_
  refine lv_iconst (v := nI 2) hx hb d_law_716 (by decide) ?_
  refine nv_iadd hx hb d_law_717 ?_
  refine va_sld hx hb hX hbl hbA hS (vp_in_nI (by omega) (by omega)) d_law_718 ?_
  refine nv_topi (y := xs (i + 2)) (congrArg xs (nI_clamp (by omega))) ?_
  refine lv_aload_n hx hb d_law_719 rfl (lv_at hl 0 rfl) ?_
  refine lv_iload_n hx hb d_law_720 rfl (lv_at hl 3 rfl) ?_
  refine lv_iconst (v := nI 3) hx hb d_law_721 (by decide) ?_
  refine nv_iadd hx hb d_law_722 ?_
  refine va_sld hx hb hX hbl hbA hS (vp_in_nI (by omega) (by omega)) d_law_723 ?_
  refine nv_topi (y := xs (i + 3)) (congrArg xs (nI_clamp (by omega))) ?_
  have hPx : va_P D cls (fl (mL kC cs ms)) H1 := fl_P hP 1 rfl
  have hrx := f_recv (ci := 7) (q0 := 0) hK hPx 0 rfl rfl rfl
  have hDx := fl_D hD 1 rfl
  refine g_calliG 1 (va_runV (As := [.int (xs (i + 1)), .int (xs (i + 2)), .int (xs (i + 3))]) (rest := [.int _]) ⟨hx, hb, hml, hown, hts⟩ (c_O_needs l D kC ms.ad cs.td cs.rn cs.pn cs.an cs.jn cs.tn ms.bm ms.fw ms.gp ms.ga ms.bp ms.fc ms.fj cs.rA cs.rC cs.ft cs.kd cs.aG cs.sR cs.sT ms.wh cs.dY cs.pd cs.cN cs.mN ms.sv ms.nd cs.wr ms.tl ms.lt ms.lT cs.lD ms.gv ms.gn ms.od ms.br (xs (i + 1)) (xs (i + 2)) (xs (i + 3)) H1.size R.hjn) (cwV 3 hts g_law_O_needs rfl rfl rfl (by decide +kernel) ⟨Nat.le_of_ble_eq_true rfl, Nat.le_of_ble_eq_true rfl⟩) (g_preV hrx hK hPx hDx) rfl rfl hl.1 rfl (lv_room (Nat.le_of_ble_eq_true rfl)) d_law_724 ⟨rmC h3 0 0 (by decide), rmS h17 0 0 (by decide)⟩) hS hA hP hD rfl (fun H2 locs hP hD hS => ?_)
  refine lv_icmp_eq (tgt := 1053) hx hb d_law_727 (by decide) (fun _ => ?_) (fun z9 => absurd (rfl) z9)
  refine W.widen (k := cc + 3) (n := sc + 17) (by omega) (by omega) ?_
  refine kk _ _ H2 locs (st_needs R (xs (i + 1)) (xs (i + 2)) (xs (i + 3))) (by rw [mkCS_ad]) (by rw [mkMS_ad]) ?_ ?_ hS
  · rw [lawW_cm]; exact hP
  · rw [lawW_cm]; exact hD
