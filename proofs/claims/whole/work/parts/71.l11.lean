set_option maxHeartbeats 4000000 in
set_option maxRecDepth 100000 in
/-- recalled -/
theorem law_recalled {p : Program} {l : Launch} {e : Env} {s : State} {m : MethodId} {below : List Frame} {meth : Method} {c : Code} {b L : Nat} {xs : Nat → Int32} {D : va_G} {kC : Nat → ClassId} {eD i cc sc : Nat} {cs : CS} {ms : MS} {H : Heap} {locs : List Loc} {ls : Array Slot} (h : LwH p s m meth c b L xs D kC eD i cc sc cs ms H locs ls) (kk : lwK p l e s m below meth c b D kC eD cc sc cs ms ls) : W p l e room_1 s m #[Value.ref b] below meth c H locs cc sc (lw_Z below #[Value.ref b] s) (F0 m 941 ls []) := by
  obtain ⟨⟨hx, hb, hr, hml, hown, hts, hX0, hbl, hlocks, hgv⟩, hK, hz, hL, hi, h3, h17, R, hP, hD, hS, hl⟩ := h
  have hX := hX0
  have hA : ∀ q : Nat, s.heap.size ≤ q → (fun q : Nat => s.heap.size ≤ q) q := fun _ h => h
  have hbA : ¬ (fun q : Nat => s.heap.size ≤ q) b := Nat.not_le.mpr hbl
  have hzw : zW s := hz.2.2
  refine lv_aload_n hx hb d_law_941 rfl (lv_at hl 1 rfl) ?_
  refine lv_aload_n hx hb d_law_942 rfl (lv_at hl 0 rfl) ?_
  refine lv_iload_n hx hb d_law_943 rfl (lv_at hl 3 rfl) ?_
  refine lv_iconst (v := nI 1) hx hb d_law_944 (by decide) ?_
  refine nv_iadd hx hb d_law_945 ?_
  refine va_sld hx hb hX hbl hbA hS (vp_in_nI (by omega) (by omega)) d_law_946 ?_
  refine nv_topi (y := xs (i + 1)) (congrArg xs (nI_clamp (by omega))) ?_
  have hPx : va_P D cls (fl (cL kC eD cs)) H := fl_P hP 0 rfl
  have hrx := f_recv (ci := 0) (q0 := 0) hK hPx 0 rfl rfl rfl
  refine r_calli (W.runV (As := [.int (xs (i + 1))]) (rest := []) ⟨hx, hb, hml, hown, hts⟩ (c_P_recalled l D kC cs.ad cs.qR cs.lp cs.la cs.lj cs.qM cs.qN cs.ft cs.wr cs.tl cs.tn cs.bo cs.lD cs.td (xs (i + 1)) R.htn) (cwV 1 hts g_law_P_recalled rfl rfl rfl (by decide +kernel) ⟨Nat.le_of_ble_eq_true rfl, Nat.le_of_ble_eq_true rfl⟩) (r_preV hrx hK (fl_sub hPx [0] rfl)) rfl rfl hl.1 rfl (lv_room (Nat.le_of_ble_eq_true rfl)) d_law_947 ⟨rmC h3 0 0 (by decide), rmS h17 0 0 (by decide)⟩) ?_
  refine lv_aload_n hx hb d_law_950 rfl (lv_at hl 2 rfl) ?_
  refine lv_aload_n hx hb d_law_951 rfl (lv_at hl 0 rfl) ?_
  refine lv_iload_n hx hb d_law_952 rfl (lv_at hl 3 rfl) ?_
  refine lv_iconst (v := nI 1) hx hb d_law_953 (by decide) ?_
  refine nv_iadd hx hb d_law_954 ?_
  refine va_sld hx hb hX hbl hbA hS (vp_in_nI (by omega) (by omega)) d_law_955 ?_
  refine nv_topi (y := xs (i + 1)) (congrArg xs (nI_clamp (by omega))) ?_
  have hPx : va_P D cls (fl (mL kC cs ms)) H := fl_P hP 1 rfl
  have hrx := f_recv (ci := 7) (q0 := 0) hK hPx 0 rfl rfl rfl
  refine r_calli (W.runV (As := [.int (xs (i + 1))]) (rest := [.int _]) ⟨hx, hb, hml, hown, hts⟩ (c_O_recalled l D kC ms.ad cs.td cs.rn cs.pn cs.an cs.jn cs.tn ms.bm ms.fw ms.gp ms.ga ms.bp ms.fc ms.fj cs.rA cs.rC cs.ft cs.kd cs.aG cs.sR cs.sT ms.wh cs.dY cs.pd cs.cN cs.mN ms.sv ms.nd cs.wr ms.tl ms.lt ms.lT cs.lD ms.gv ms.gn ms.od ms.br (xs (i + 1)) R.htn) (cwV 1 hts g_law_O_recalled rfl rfl rfl (by decide +kernel) ⟨Nat.le_of_ble_eq_true rfl, Nat.le_of_ble_eq_true rfl⟩) (r_preV hrx hK hPx) rfl rfl hl.1 rfl (lv_room (Nat.le_of_ble_eq_true rfl)) d_law_956 ⟨rmC h3 0 0 (by decide), rmS h17 0 0 (by decide)⟩) ?_
  refine lv_icmp_eq (tgt := 1053) hx hb d_law_959 (by decide) (fun _ => ?_) (fun z9 => absurd (an_recalled R (xs (i + 1))) z9)
  refine W.widen (k := cc + 3) (n := sc + 17) (by omega) (by omega) ?_
  exact kk cs ms H locs R rfl rfl hP hD hS
set_option maxHeartbeats 4000000 in
set_option maxRecDepth 100000 in
/-- lend -/
theorem law_lend {p : Program} {l : Launch} {e : Env} {s : State} {m : MethodId} {below : List Frame} {meth : Method} {c : Code} {b L : Nat} {xs : Nat → Int32} {D : va_G} {kC : Nat → ClassId} {eD i cc sc : Nat} {cs : CS} {ms : MS} {H : Heap} {locs : List Loc} {ls : Array Slot} (h : LwH p s m meth c b L xs D kC eD i cc sc cs ms H locs ls) (kk : lwK p l e s m below meth c b D kC eD cc sc cs ms ls) : W p l e room_1 s m #[Value.ref b] below meth c H locs cc sc (lw_Z below #[Value.ref b] s) (F0 m 964 ls []) := by
  obtain ⟨⟨hx, hb, hr, hml, hown, hts, hX0, hbl, hlocks, hgv⟩, hK, hz, hL, hi, h3, h17, R, hP, hD, hS, hl⟩ := h
  have hX := hX0
  have hA : ∀ q : Nat, s.heap.size ≤ q → (fun q : Nat => s.heap.size ≤ q) q := fun _ h => h
  have hbA : ¬ (fun q : Nat => s.heap.size ≤ q) b := Nat.not_le.mpr hbl
  have hzw : zW s := hz.2.2
  refine lv_aload_n hx hb d_law_964 rfl (lv_at hl 1 rfl) ?_
  refine lv_aload_n hx hb d_law_965 rfl (lv_at hl 0 rfl) ?_
  refine lv_iload_n hx hb d_law_966 rfl (lv_at hl 3 rfl) ?_
  refine lv_iconst (v := nI 1) hx hb d_law_967 (by decide) ?_
  refine nv_iadd hx hb d_law_968 ?_
  refine va_sld hx hb hX hbl hbA hS (vp_in_nI (by omega) (by omega)) d_law_969 ?_
  refine nv_topi (y := xs (i + 1)) (congrArg xs (nI_clamp (by omega))) ?_
  refine lv_aload_n hx hb d_law_970 rfl (lv_at hl 0 rfl) ?_
  refine lv_iload_n hx hb d_law_971 rfl (lv_at hl 3 rfl) ?_
  refine lv_iconst (v := nI 2) hx hb d_law_972 (by decide) ?_
  refine nv_iadd hx hb d_law_973 ?_
  refine va_sld hx hb hX hbl hbA hS (vp_in_nI (by omega) (by omega)) d_law_974 ?_
  refine nv_topi (y := xs (i + 2)) (congrArg xs (nI_clamp (by omega))) ?_
  refine lv_aload_n hx hb d_law_975 rfl (lv_at hl 0 rfl) ?_
  refine lv_iload_n hx hb d_law_976 rfl (lv_at hl 3 rfl) ?_
  refine lv_iconst (v := nI 3) hx hb d_law_977 (by decide) ?_
  refine nv_iadd hx hb d_law_978 ?_
  refine va_sld hx hb hX hbl hbA hS (vp_in_nI (by omega) (by omega)) d_law_979 ?_
  refine nv_topi (y := xs (i + 3)) (congrArg xs (nI_clamp (by omega))) ?_
  have hPx : va_P D cls (fl (cL kC eD cs)) H := fl_P hP 0 rfl
  have hrx := f_recv (ci := 0) (q0 := 0) hK hPx 0 rfl rfl rfl
  have hDx := fl_D hD 0 rfl
  refine g_calliG 0 (va_runV (As := [.int (xs (i + 1)), .int (xs (i + 2)), .int (xs (i + 3))]) (rest := []) ⟨hx, hb, hml, hown, hts⟩ (c_P_lend l D kC cs.ad cs.qR cs.lp cs.la cs.lj cs.qM cs.qN cs.ft cs.wr cs.tl cs.tn cs.bo cs.lD cs.td cs.rA cs.rC cs.rn eD cs.mdp cs.xp cs.pn cs.pa cs.kd cs.aG cs.sR cs.sT cs.dY cs.pho cs.ppe cs.mda cs.xa cs.an cs.aa cs.anu cs.pd cs.cN cs.mN cs.aop cs.rr cs.fc cs.ntot cs.ch cs.fp cs.mdj cs.xj cs.jn cs.ja cs.jx cs.jne cs.sh cs.be cs.ob cs.os cs.oc cs.ar cs.gi cs.pg cs.ag cs.mp cs.ma cs.prn cs.mtot (xs (i + 1)) (xs (i + 2)) (xs (i + 3)) H.size R.htd) (cwV 3 hts g_law_P_lend rfl rfl rfl (by decide +kernel) ⟨Nat.le_of_ble_eq_true rfl, Nat.le_of_ble_eq_true rfl⟩) (g_preV hrx hK hPx hDx) rfl rfl hl.1 rfl (lv_room (Nat.le_of_ble_eq_true rfl)) d_law_980 ⟨rmC h3 0 0 (by decide), rmS h17 0 0 (by decide)⟩) hS hA hP hD rfl (fun H1 locs hP hD hS => ?_)
  refine lv_aload_n hx hb d_law_983 rfl (lv_at hl 2 rfl) ?_
  refine lv_aload_n hx hb d_law_984 rfl (lv_at hl 0 rfl) ?_
  refine lv_iload_n hx hb d_law_985 rfl (lv_at hl 3 rfl) ?_
  refine lv_iconst (v := nI 1) hx hb d_law_986 (by decide) ?_
  refine nv_iadd hx hb d_law_987 ?_
  refine va_sld hx hb hX hbl hbA hS (vp_in_nI (by omega) (by omega)) d_law_988 ?_
  refine nv_topi (y := xs (i + 1)) (congrArg xs (nI_clamp (by omega))) ?_
  refine lv_aload_n hx hb d_law_989 rfl (lv_at hl 0 rfl) ?_
  refine lv_iload_n hx hb d_law_990 rfl (lv_at hl 3 rfl) ?_
  refine lv_iconst (v := nI 2) hx hb d_law_991 (by decide) ?_
  refine nv_iadd hx hb d_law_992 ?_
  refine va_sld hx hb hX hbl hbA hS (vp_in_nI (by omega) (by omega)) d_law_993 ?_
  refine nv_topi (y := xs (i + 2)) (congrArg xs (nI_clamp (by omega))) ?_
  refine lv_aload_n hx hb d_law_994 rfl (lv_at hl 0 rfl) ?_
  refine lv_iload_n hx hb d_law_995 rfl (lv_at hl 3 rfl) ?_
  refine lv_iconst (v := nI 3) hx hb d_law_996 (by decide) ?_
  refine nv_iadd hx hb d_law_997 ?_
  refine va_sld hx hb hX hbl hbA hS (vp_in_nI (by omega) (by omega)) d_law_998 ?_
  refine nv_topi (y := xs (i + 3)) (congrArg xs (nI_clamp (by omega))) ?_
  have hPx : va_P D cls (fl (mL kC cs ms)) H1 := fl_P hP 1 rfl
  have hrx := f_recv (ci := 7) (q0 := 0) hK hPx 0 rfl rfl rfl
  have hDx := fl_D hD 1 rfl
  refine g_calliG 1 (va_runV (As := [.int (xs (i + 1)), .int (xs (i + 2)), .int (xs (i + 3))]) (rest := [.int _]) ⟨hx, hb, hml, hown, hts⟩ (c_O_lend l D kC ms.ad cs.td cs.rn cs.pn cs.an cs.jn cs.tn ms.bm ms.fw ms.gp ms.ga ms.bp ms.fc ms.fj cs.rA cs.rC cs.ft cs.kd cs.aG cs.sR cs.sT ms.wh cs.dY cs.pd cs.cN cs.mN ms.sv ms.nd cs.wr ms.tl ms.lt ms.lT cs.lD ms.gv ms.gn ms.od ms.br (xs (i + 1)) (xs (i + 2)) (xs (i + 3)) H1.size R.htd) (cwV 3 hts g_law_O_lend rfl rfl rfl (by decide +kernel) ⟨Nat.le_of_ble_eq_true rfl, Nat.le_of_ble_eq_true rfl⟩) (g_preV hrx hK hPx hDx) rfl rfl hl.1 rfl (lv_room (Nat.le_of_ble_eq_true rfl)) d_law_999 ⟨rmC h3 0 0 (by decide), rmS h17 0 0 (by decide)⟩) hS hA hP hD rfl (fun H2 locs hP hD hS => ?_)
  refine lv_icmp_eq (tgt := 1053) hx hb d_law_1002 (by decide) (fun _ => ?_) (fun z9 => absurd (bI_congr (st_lend_iff R (xs (i + 1)) (xs (i + 2)) (xs (i + 3))).symm) z9)
  refine W.widen (k := cc + 3) (n := sc + 17) (by omega) (by omega) ?_
  have e1 := ite_iff (st_lend_iff R (xs (i + 1)) (xs (i + 2)) (xs (i + 3))) (updN cs.lD (nOf (xs (i + 1))) (nOf (xs (i + 3)))) cs.lD
  rw [e1] at hP hD
  refine kk _ _ H2 locs (st_lend R (xs (i + 1)) (xs (i + 2)) (xs (i + 3))) (by rw [mkCS_ad]) (by rw [mkMS_ad]) ?_ ?_ hS
  · rw [lawW_cm]; exact hP
  · rw [lawW_cm]; exact hD
set_option maxHeartbeats 4000000 in
set_option maxRecDepth 100000 in
/-- back -/
theorem law_back {p : Program} {l : Launch} {e : Env} {s : State} {m : MethodId} {below : List Frame} {meth : Method} {c : Code} {b L : Nat} {xs : Nat → Int32} {D : va_G} {kC : Nat → ClassId} {eD i cc sc : Nat} {cs : CS} {ms : MS} {H : Heap} {locs : List Loc} {ls : Array Slot} (h : LwH p s m meth c b L xs D kC eD i cc sc cs ms H locs ls) (kk : lwK p l e s m below meth c b D kC eD cc sc cs ms ls) : W p l e room_1 s m #[Value.ref b] below meth c H locs cc sc (lw_Z below #[Value.ref b] s) (F0 m 1007 ls []) := by
  obtain ⟨⟨hx, hb, hr, hml, hown, hts, hX0, hbl, hlocks, hgv⟩, hK, hz, hL, hi, h3, h17, R, hP, hD, hS, hl⟩ := h
  have hX := hX0
  have hA : ∀ q : Nat, s.heap.size ≤ q → (fun q : Nat => s.heap.size ≤ q) q := fun _ h => h
  have hbA : ¬ (fun q : Nat => s.heap.size ≤ q) b := Nat.not_le.mpr hbl
  have hzw : zW s := hz.2.2
  refine lv_aload_n hx hb d_law_1007 rfl (lv_at hl 1 rfl) ?_
  refine lv_aload_n hx hb d_law_1008 rfl (lv_at hl 0 rfl) ?_
  refine lv_iload_n hx hb d_law_1009 rfl (lv_at hl 3 rfl) ?_
  refine lv_iconst (v := nI 1) hx hb d_law_1010 (by decide) ?_
  refine nv_iadd hx hb d_law_1011 ?_
  refine va_sld hx hb hX hbl hbA hS (vp_in_nI (by omega) (by omega)) d_law_1012 ?_
  refine nv_topi (y := xs (i + 1)) (congrArg xs (nI_clamp (by omega))) ?_
  have hPx : va_P D cls (fl (cL kC eD cs)) H := fl_P hP 0 rfl
  have hrx := f_recv (ci := 0) (q0 := 0) hK hPx 0 rfl rfl rfl
  have hDx := fl_D hD 0 rfl
  refine g_calliG 0 (va_runV (As := [.int (xs (i + 1))]) (rest := []) ⟨hx, hb, hml, hown, hts⟩ (c_P_back l D kC cs.ad cs.qR cs.lp cs.la cs.lj cs.qM cs.qN cs.ft cs.wr cs.tl cs.tn cs.bo cs.lD cs.td cs.rA cs.rC cs.rn eD cs.mdp cs.xp cs.pn cs.pa cs.kd cs.aG cs.sR cs.sT cs.dY cs.pho cs.ppe cs.mda cs.xa cs.an cs.aa cs.anu cs.pd cs.cN cs.mN cs.aop cs.rr cs.fc cs.ntot cs.ch cs.fp cs.mdj cs.xj cs.jn cs.ja cs.jx cs.jne cs.sh cs.be cs.ob cs.os cs.oc cs.ar cs.gi cs.pg cs.ag cs.mp cs.ma cs.prn cs.mtot (xs (i + 1)) H.size) (cwV 1 hts g_law_P_back rfl rfl rfl (by decide +kernel) ⟨Nat.le_of_ble_eq_true rfl, Nat.le_of_ble_eq_true rfl⟩) (g_preV hrx hK hPx hDx) rfl rfl hl.1 rfl (lv_room (Nat.le_of_ble_eq_true rfl)) d_law_1013 ⟨rmC h3 0 0 (by decide), rmS h17 0 0 (by decide)⟩) hS hA hP hD rfl (fun H1 locs hP hD hS => ?_)
  refine lv_aload_n hx hb d_law_1016 rfl (lv_at hl 2 rfl) ?_
  refine lv_aload_n hx hb d_law_1017 rfl (lv_at hl 0 rfl) ?_
  refine lv_iload_n hx hb d_law_1018 rfl (lv_at hl 3 rfl) ?_
  refine lv_iconst (v := nI 1) hx hb d_law_1019 (by decide) ?_
  refine nv_iadd hx hb d_law_1020 ?_
  refine va_sld hx hb hX hbl hbA hS (vp_in_nI (by omega) (by omega)) d_law_1021 ?_
  refine nv_topi (y := xs (i + 1)) (congrArg xs (nI_clamp (by omega))) ?_
  have hPx : va_P D cls (fl (mL kC cs ms)) H1 := fl_P hP 1 rfl
  have hrx := f_recv (ci := 7) (q0 := 0) hK hPx 0 rfl rfl rfl
  have hDx := fl_D hD 1 rfl
  refine g_calliG 1 (va_runV (As := [.int (xs (i + 1))]) (rest := [.int _]) ⟨hx, hb, hml, hown, hts⟩ (c_O_back l D kC ms.ad cs.td cs.rn cs.pn cs.an cs.jn cs.tn ms.bm ms.fw ms.gp ms.ga ms.bp ms.fc ms.fj cs.rA cs.rC cs.ft cs.kd cs.aG cs.sR cs.sT ms.wh cs.dY cs.pd cs.cN cs.mN ms.sv ms.nd cs.wr ms.tl ms.lt ms.lT cs.lD ms.gv ms.gn ms.od ms.br (xs (i + 1)) H1.size) (cwV 1 hts g_law_O_back rfl rfl rfl (by decide +kernel) ⟨Nat.le_of_ble_eq_true rfl, Nat.le_of_ble_eq_true rfl⟩) (g_preV hrx hK hPx hDx) rfl rfl hl.1 rfl (lv_room (Nat.le_of_ble_eq_true rfl)) d_law_1022 ⟨rmC h3 0 0 (by decide), rmS h17 0 0 (by decide)⟩) hS hA hP hD rfl (fun H2 locs hP hD hS => ?_)
  refine lv_icmp_eq (tgt := 1053) hx hb d_law_1025 (by decide) (fun _ => ?_) (fun z9 => absurd (an_back R (xs (i + 1))) z9)
  refine W.widen (k := cc + 3) (n := sc + 17) (by omega) (by omega) ?_
  refine kk _ _ H2 locs (st_back R (xs (i + 1))) (by rw [mkCS_ad]) (by rw [mkMS_ad]) ?_ ?_ hS
  · rw [lawW_cm]; exact hP
  · rw [lawW_cm]; exact hD
set_option maxHeartbeats 4000000 in
set_option maxRecDepth 100000 in
/-- late -/
theorem law_late {p : Program} {l : Launch} {e : Env} {s : State} {m : MethodId} {below : List Frame} {meth : Method} {c : Code} {b L : Nat} {xs : Nat → Int32} {D : va_G} {kC : Nat → ClassId} {eD i cc sc : Nat} {cs : CS} {ms : MS} {H : Heap} {locs : List Loc} {ls : Array Slot} (h : LwH p s m meth c b L xs D kC eD i cc sc cs ms H locs ls) (kk : lwK p l e s m below meth c b D kC eD cc sc cs ms ls) : W p l e room_1 s m #[Value.ref b] below meth c H locs cc sc (lw_Z below #[Value.ref b] s) (F0 m 1030 ls []) := by
  obtain ⟨⟨hx, hb, hr, hml, hown, hts, hX0, hbl, hlocks, hgv⟩, hK, hz, hL, hi, h3, h17, R, hP, hD, hS, hl⟩ := h
  have hX := hX0
  have hA : ∀ q : Nat, s.heap.size ≤ q → (fun q : Nat => s.heap.size ≤ q) q := fun _ h => h
  have hbA : ¬ (fun q : Nat => s.heap.size ≤ q) b := Nat.not_le.mpr hbl
  have hzw : zW s := hz.2.2
  refine lv_aload_n hx hb d_law_1030 rfl (lv_at hl 1 rfl) ?_
  refine lv_aload_n hx hb d_law_1031 rfl (lv_at hl 0 rfl) ?_
  refine lv_iload_n hx hb d_law_1032 rfl (lv_at hl 3 rfl) ?_
  refine lv_iconst (v := nI 1) hx hb d_law_1033 (by decide) ?_
  refine nv_iadd hx hb d_law_1034 ?_
  refine va_sld hx hb hX hbl hbA hS (vp_in_nI (by omega) (by omega)) d_law_1035 ?_
  refine nv_topi (y := xs (i + 1)) (congrArg xs (nI_clamp (by omega))) ?_
  have hPx : va_P D cls (fl (cL kC eD cs)) H := fl_P hP 0 rfl
  have hrx := f_recv (ci := 0) (q0 := 0) hK hPx 0 rfl rfl rfl
  refine r_calli (W.runV (As := [.int (xs (i + 1))]) (rest := []) ⟨hx, hb, hml, hown, hts⟩ (c_P_late l D kC cs.ad cs.qR cs.lp cs.la cs.lj cs.qM cs.qN cs.ft cs.wr cs.tl cs.tn cs.bo cs.lD cs.td (xs (i + 1)) R.htd R.hlD) (cwV 1 hts g_law_P_late rfl rfl rfl (by decide +kernel) ⟨Nat.le_of_ble_eq_true rfl, Nat.le_of_ble_eq_true rfl⟩) (r_preV hrx hK (fl_sub hPx [0] rfl)) rfl rfl hl.1 rfl (lv_room (Nat.le_of_ble_eq_true rfl)) d_law_1036 ⟨rmC h3 0 0 (by decide), rmS h17 0 0 (by decide)⟩) ?_
  refine lv_aload_n hx hb d_law_1039 rfl (lv_at hl 2 rfl) ?_
  refine lv_aload_n hx hb d_law_1040 rfl (lv_at hl 0 rfl) ?_
  refine lv_iload_n hx hb d_law_1041 rfl (lv_at hl 3 rfl) ?_
  refine lv_iconst (v := nI 1) hx hb d_law_1042 (by decide) ?_
  refine nv_iadd hx hb d_law_1043 ?_
  refine va_sld hx hb hX hbl hbA hS (vp_in_nI (by omega) (by omega)) d_law_1044 ?_
  refine nv_topi (y := xs (i + 1)) (congrArg xs (nI_clamp (by omega))) ?_
  have hPx : va_P D cls (fl (mL kC cs ms)) H := fl_P hP 1 rfl
  have hrx := f_recv (ci := 7) (q0 := 0) hK hPx 0 rfl rfl rfl
  refine r_calli (W.runV (As := [.int (xs (i + 1))]) (rest := [.int _]) ⟨hx, hb, hml, hown, hts⟩ (c_O_late l D kC ms.ad cs.td cs.rn cs.pn cs.an cs.jn cs.tn ms.bm ms.fw ms.gp ms.ga ms.bp ms.fc ms.fj cs.rA cs.rC cs.ft cs.kd cs.aG cs.sR cs.sT ms.wh cs.dY cs.pd cs.cN cs.mN ms.sv ms.nd cs.wr ms.tl ms.lt ms.lT cs.lD ms.gv ms.gn ms.od ms.br (xs (i + 1)) R.htd R.hlD) (cwV 1 hts g_law_O_late rfl rfl rfl (by decide +kernel) ⟨Nat.le_of_ble_eq_true rfl, Nat.le_of_ble_eq_true rfl⟩) (r_preV hrx hK hPx) rfl rfl hl.1 rfl (lv_room (Nat.le_of_ble_eq_true rfl)) d_law_1045 ⟨rmC h3 0 0 (by decide), rmS h17 0 0 (by decide)⟩) ?_
  refine lv_icmp_eq (tgt := 1053) hx hb d_law_1048 (by decide) (fun _ => ?_) (fun z9 => absurd (an_late R (xs (i + 1))) z9)
  refine W.widen (k := cc + 3) (n := sc + 17) (by omega) (by omega) ?_
  exact kk cs ms H locs R rfl rfl hP hD hS
