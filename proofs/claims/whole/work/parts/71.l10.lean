set_option maxHeartbeats 4000000 in
set_option maxRecDepth 100000 in
/-- warranty -/
theorem law_warranty {p : Program} {l : Launch} {e : Env} {s : State} {m : MethodId} {below : List Frame} {meth : Method} {c : Code} {b L : Nat} {xs : Nat → Int32} {D : va_G} {kC : Nat → ClassId} {eD i cc sc : Nat} {cs : CS} {ms : MS} {H : Heap} {locs : List Loc} {ls : Array Slot} (h : LwH p s m meth c b L xs D kC eD i cc sc cs ms H locs ls) (kk : lwK p l e s m below meth c b D kC eD cc sc cs ms ls) : W p l e room_1 s m #[Value.ref b] below meth c H locs cc sc (lw_Z below #[Value.ref b] s) (F0 m 782 ls []) := by
  obtain ⟨⟨hx, hb, hr, hml, hown, hts, hX0, hbl, hlocks, hgv⟩, hK, hz, hL, hi, h3, h17, R, hP, hD, hS, hl⟩ := h
  have hX := hX0
  have hA : ∀ q : Nat, s.heap.size ≤ q → (fun q : Nat => s.heap.size ≤ q) q := fun _ h => h
  have hbA : ¬ (fun q : Nat => s.heap.size ≤ q) b := Nat.not_le.mpr hbl
  have hzw : zW s := hz.2.2
  refine lv_aload_n hx hb d_law_782 rfl (lv_at hl 1 rfl) ?_
  refine lv_aload_n hx hb d_law_783 rfl (lv_at hl 0 rfl) ?_
  refine lv_iload_n hx hb d_law_784 rfl (lv_at hl 3 rfl) ?_
  refine lv_iconst (v := nI 1) hx hb d_law_785 (by decide) ?_
  refine nv_iadd hx hb d_law_786 ?_
  refine va_sld hx hb hX hbl hbA hS (vp_in_nI (by omega) (by omega)) d_law_787 ?_
  refine nv_topi (y := xs (i + 1)) (congrArg xs (nI_clamp (by omega))) ?_
  refine lv_aload_n hx hb d_law_788 rfl (lv_at hl 0 rfl) ?_
  refine lv_iload_n hx hb d_law_789 rfl (lv_at hl 3 rfl) ?_
  refine lv_iconst (v := nI 2) hx hb d_law_790 (by decide) ?_
  refine nv_iadd hx hb d_law_791 ?_
  refine va_sld hx hb hX hbl hbA hS (vp_in_nI (by omega) (by omega)) d_law_792 ?_
  refine nv_topi (y := xs (i + 2)) (congrArg xs (nI_clamp (by omega))) ?_
  have hPx : va_P D cls (fl (cL kC eD cs)) H := fl_P hP 0 rfl
  have hrx := f_recv (ci := 0) (q0 := 0) hK hPx 0 rfl rfl rfl
  have hDx := fl_D hD 0 rfl
  refine g_calliG 0 (va_runV (As := [.int (xs (i + 1)), .int (xs (i + 2))]) (rest := []) ⟨hx, hb, hml, hown, hts⟩ (c_P_warr l D kC cs.ad cs.qR cs.lp cs.la cs.lj cs.qM cs.qN cs.ft cs.wr cs.tl cs.tn cs.bo cs.lD cs.td cs.rA cs.rC cs.rn eD cs.mdp cs.xp cs.pn cs.pa cs.kd cs.aG cs.sR cs.sT cs.dY cs.pho cs.ppe cs.mda cs.xa cs.an cs.aa cs.anu cs.pd cs.cN cs.mN cs.aop cs.rr cs.fc cs.ntot cs.ch cs.fp cs.mdj cs.xj cs.jn cs.ja cs.jx cs.jne cs.sh cs.be cs.ob cs.os cs.oc cs.ar cs.gi cs.pg cs.ag cs.mp cs.ma cs.prn cs.mtot (xs (i + 1)) (xs (i + 2)) H.size) (cwV 2 hts g_law_P_warranty rfl rfl rfl (by decide +kernel) ⟨Nat.le_of_ble_eq_true rfl, Nat.le_of_ble_eq_true rfl⟩) (g_preV hrx hK hPx hDx) rfl rfl hl.1 rfl (lv_room (Nat.le_of_ble_eq_true rfl)) d_law_793 ⟨rmC h3 0 0 (by decide), rmS h17 0 0 (by decide)⟩) hS hA hP hD rfl (fun H1 locs hP hD hS => ?_)
  refine lv_aload_n hx hb d_law_796 rfl (lv_at hl 2 rfl) ?_
  refine lv_aload_n hx hb d_law_797 rfl (lv_at hl 0 rfl) ?_
  refine lv_iload_n hx hb d_law_798 rfl (lv_at hl 3 rfl) ?_
  refine lv_iconst (v := nI 1) hx hb d_law_799 (by decide) ?_
  refine nv_iadd hx hb d_law_800 ?_
  refine va_sld hx hb hX hbl hbA hS (vp_in_nI (by omega) (by omega)) d_law_801 ?_
  refine nv_topi (y := xs (i + 1)) (congrArg xs (nI_clamp (by omega))) ?_
  refine lv_aload_n hx hb d_law_802 rfl (lv_at hl 0 rfl) ?_
  refine lv_iload_n hx hb d_law_803 rfl (lv_at hl 3 rfl) ?_
  refine lv_iconst (v := nI 2) hx hb d_law_804 (by decide) ?_
  refine nv_iadd hx hb d_law_805 ?_
  refine va_sld hx hb hX hbl hbA hS (vp_in_nI (by omega) (by omega)) d_law_806 ?_
  refine nv_topi (y := xs (i + 2)) (congrArg xs (nI_clamp (by omega))) ?_
  have hPx : va_P D cls (fl (mL kC cs ms)) H1 := fl_P hP 1 rfl
  have hrx := f_recv (ci := 7) (q0 := 0) hK hPx 0 rfl rfl rfl
  have hDx := fl_D hD 1 rfl
  refine g_calliG 1 (va_runV (As := [.int (xs (i + 1)), .int (xs (i + 2))]) (rest := [.int _]) ⟨hx, hb, hml, hown, hts⟩ (c_O_warranty l D kC ms.ad cs.td cs.rn cs.pn cs.an cs.jn cs.tn ms.bm ms.fw ms.gp ms.ga ms.bp ms.fc ms.fj cs.rA cs.rC cs.ft cs.kd cs.aG cs.sR cs.sT ms.wh cs.dY cs.pd cs.cN cs.mN ms.sv ms.nd cs.wr ms.tl ms.lt ms.lT cs.lD ms.gv ms.gn ms.od ms.br (xs (i + 1)) (xs (i + 2)) H1.size) (cwV 2 hts g_law_O_warranty rfl rfl rfl (by decide +kernel) ⟨Nat.le_of_ble_eq_true rfl, Nat.le_of_ble_eq_true rfl⟩) (g_preV hrx hK hPx hDx) rfl rfl hl.1 rfl (lv_room (Nat.le_of_ble_eq_true rfl)) d_law_807 ⟨rmC h3 0 0 (by decide), rmS h17 0 0 (by decide)⟩) hS hA hP hD rfl (fun H2 locs hP hD hS => ?_)
  refine lv_icmp_eq (tgt := 1053) hx hb d_law_810 (by decide) (fun _ => ?_) (fun z9 => absurd (rfl) z9)
  refine W.widen (k := cc + 3) (n := sc + 17) (by omega) (by omega) ?_
  refine kk _ ms H2 locs (st_warr R (xs (i + 1)) (xs (i + 2))) (by rw [mkCS_ad]) rfl ?_ ?_ hS
  · rw [lawW_c]; exact hP
  · rw [lawW_c]; exact hD
set_option maxHeartbeats 4000000 in
set_option maxRecDepth 100000 in
/-- returned -/
theorem law_returned {p : Program} {l : Launch} {e : Env} {s : State} {m : MethodId} {below : List Frame} {meth : Method} {c : Code} {b L : Nat} {xs : Nat → Int32} {D : va_G} {kC : Nat → ClassId} {eD i cc sc : Nat} {cs : CS} {ms : MS} {H : Heap} {locs : List Loc} {ls : Array Slot} (h : LwH p s m meth c b L xs D kC eD i cc sc cs ms H locs ls) (kk : lwK p l e s m below meth c b D kC eD cc sc cs ms ls) : W p l e room_1 s m #[Value.ref b] below meth c H locs cc sc (lw_Z below #[Value.ref b] s) (F0 m 815 ls []) := by
  obtain ⟨⟨hx, hb, hr, hml, hown, hts, hX0, hbl, hlocks, hgv⟩, hK, hz, hL, hi, h3, h17, R, hP, hD, hS, hl⟩ := h
  have hX := hX0
  have hA : ∀ q : Nat, s.heap.size ≤ q → (fun q : Nat => s.heap.size ≤ q) q := fun _ h => h
  have hbA : ¬ (fun q : Nat => s.heap.size ≤ q) b := Nat.not_le.mpr hbl
  have hzw : zW s := hz.2.2
  refine lv_aload_n hx hb d_law_815 rfl (lv_at hl 1 rfl) ?_
  refine lv_aload_n hx hb d_law_816 rfl (lv_at hl 0 rfl) ?_
  refine lv_iload_n hx hb d_law_817 rfl (lv_at hl 3 rfl) ?_
  refine lv_iconst (v := nI 1) hx hb d_law_818 (by decide) ?_
  refine nv_iadd hx hb d_law_819 ?_
  refine va_sld hx hb hX hbl hbA hS (vp_in_nI (by omega) (by omega)) d_law_820 ?_
  refine nv_topi (y := xs (i + 1)) (congrArg xs (nI_clamp (by omega))) ?_
  have hPx : va_P D cls (fl (cL kC eD cs)) H := fl_P hP 0 rfl
  have hrx := f_recv (ci := 0) (q0 := 0) hK hPx 0 rfl rfl rfl
  have hDx := fl_D hD 0 rfl
  refine g_calliG 0 (va_runV (As := [.int (xs (i + 1))]) (rest := []) ⟨hx, hb, hml, hown, hts⟩ (c_P_ret l D kC cs.ad cs.qR cs.lp cs.la cs.lj cs.qM cs.qN cs.ft cs.wr cs.tl cs.tn cs.bo cs.lD cs.td cs.rA cs.rC cs.rn eD cs.mdp cs.xp cs.pn cs.pa cs.kd cs.aG cs.sR cs.sT cs.dY cs.pho cs.ppe cs.mda cs.xa cs.an cs.aa cs.anu cs.pd cs.cN cs.mN cs.aop cs.rr cs.fc cs.ntot cs.ch cs.fp cs.mdj cs.xj cs.jn cs.ja cs.jx cs.jne cs.sh cs.be cs.ob cs.os cs.oc cs.ar cs.gi cs.pg cs.ag cs.mp cs.ma cs.prn cs.mtot (xs (i + 1)) H.size R.hpn R.hsold R.hkd R.hwr R.hsT R.hdY R.htd) (cwV 1 hts g_law_P_returned rfl rfl rfl (by decide +kernel) ⟨Nat.le_of_ble_eq_true rfl, Nat.le_of_ble_eq_true rfl⟩) (z_preV hrx hz hS (fl_free hD hS hA 0 rfl) hK hPx hDx) rfl rfl hl.1 rfl (lv_room (Nat.le_of_ble_eq_true rfl)) d_law_821 ⟨rmC h3 0 0 (by decide), rmS h17 0 0 (by decide)⟩) hS hA hP hD rfl (fun H1 locs hP hD hS => ?_)
  refine lv_aload_n hx hb d_law_824 rfl (lv_at hl 2 rfl) ?_
  refine lv_aload_n hx hb d_law_825 rfl (lv_at hl 0 rfl) ?_
  refine lv_iload_n hx hb d_law_826 rfl (lv_at hl 3 rfl) ?_
  refine lv_iconst (v := nI 1) hx hb d_law_827 (by decide) ?_
  refine nv_iadd hx hb d_law_828 ?_
  refine va_sld hx hb hX hbl hbA hS (vp_in_nI (by omega) (by omega)) d_law_829 ?_
  refine nv_topi (y := xs (i + 1)) (congrArg xs (nI_clamp (by omega))) ?_
  have hPx : va_P D cls (fl (mL kC cs ms)) H1 := fl_P hP 1 rfl
  have hrx := f_recv (ci := 7) (q0 := 0) hK hPx 0 rfl rfl rfl
  have hDx := fl_D hD 1 rfl
  refine g_calliG 1 (va_runV (As := [.int (xs (i + 1))]) (rest := [.int _]) ⟨hx, hb, hml, hown, hts⟩ (c_O_returned l D kC ms.ad cs.td cs.rn cs.pn cs.an cs.jn cs.tn ms.bm ms.fw ms.gp ms.ga ms.bp ms.fc ms.fj cs.rA cs.rC cs.ft cs.kd cs.aG cs.sR cs.sT ms.wh cs.dY cs.pd cs.cN cs.mN ms.sv ms.nd cs.wr ms.tl ms.lt ms.lT cs.lD ms.gv ms.gn ms.od ms.br (xs (i + 1)) H1.size R.hpn R.hsold R.hkd R.hwr R.hsT R.hdY R.htd) (cwV 1 hts g_law_O_returned rfl rfl rfl (by decide +kernel) ⟨Nat.le_of_ble_eq_true rfl, Nat.le_of_ble_eq_true rfl⟩) (g_preV hrx hK hPx hDx) rfl rfl hl.1 rfl (lv_room (Nat.le_of_ble_eq_true rfl)) d_law_830 ⟨rmC h3 0 0 (by decide), rmS h17 0 0 (by decide)⟩) hS hA hP hD rfl (fun H2 locs hP hD hS => ?_)
  refine lv_icmp_eq (tgt := 1053) hx hb d_law_833 (by decide) (fun _ => ?_) (fun z9 => absurd (rfl) z9)
  refine W.widen (k := cc + 3) (n := sc + 17) (by omega) (by omega) ?_
  refine kk _ ms H2 locs (st_ret R (xs (i + 1))) (by rw [mkCS_ad]) rfl ?_ ?_ hS
  · rw [lawW_c]; exact hP
  · rw [lawW_c]; exact hD
set_option maxHeartbeats 4000000 in
set_option maxRecDepth 100000 in
/-- recall -/
theorem law_recall {p : Program} {l : Launch} {e : Env} {s : State} {m : MethodId} {below : List Frame} {meth : Method} {c : Code} {b L : Nat} {xs : Nat → Int32} {D : va_G} {kC : Nat → ClassId} {eD i cc sc : Nat} {cs : CS} {ms : MS} {H : Heap} {locs : List Loc} {ls : Array Slot} (h : LwH p s m meth c b L xs D kC eD i cc sc cs ms H locs ls) (kk : lwK p l e s m below meth c b D kC eD cc sc cs ms ls) : W p l e room_1 s m #[Value.ref b] below meth c H locs cc sc (lw_Z below #[Value.ref b] s) (F0 m 838 ls []) := by
  obtain ⟨⟨hx, hb, hr, hml, hown, hts, hX0, hbl, hlocks, hgv⟩, hK, hz, hL, hi, h3, h17, R, hP, hD, hS, hl⟩ := h
  have hX := hX0
  have hA : ∀ q : Nat, s.heap.size ≤ q → (fun q : Nat => s.heap.size ≤ q) q := fun _ h => h
  have hbA : ¬ (fun q : Nat => s.heap.size ≤ q) b := Nat.not_le.mpr hbl
  have hzw : zW s := hz.2.2
  refine lv_aload_n hx hb d_law_838 rfl (lv_at hl 1 rfl) ?_
  refine lv_aload_n hx hb d_law_839 rfl (lv_at hl 0 rfl) ?_
  refine lv_iload_n hx hb d_law_840 rfl (lv_at hl 3 rfl) ?_
  refine lv_iconst (v := nI 1) hx hb d_law_841 (by decide) ?_
  refine nv_iadd hx hb d_law_842 ?_
  refine va_sld hx hb hX hbl hbA hS (vp_in_nI (by omega) (by omega)) d_law_843 ?_
  refine nv_topi (y := xs (i + 1)) (congrArg xs (nI_clamp (by omega))) ?_
  refine lv_aload_n hx hb d_law_844 rfl (lv_at hl 0 rfl) ?_
  refine lv_iload_n hx hb d_law_845 rfl (lv_at hl 3 rfl) ?_
  refine lv_iconst (v := nI 2) hx hb d_law_846 (by decide) ?_
  refine nv_iadd hx hb d_law_847 ?_
  refine va_sld hx hb hX hbl hbA hS (vp_in_nI (by omega) (by omega)) d_law_848 ?_
  refine nv_topi (y := xs (i + 2)) (congrArg xs (nI_clamp (by omega))) ?_
  refine lv_i2l hx hb d_law_849 rfl ?_
  refine lv_bipush (v := nI 32) hx hb d_law_850 (by decide) ?_
  refine lv_lshl hx hb d_law_852 rfl ?_
  refine lv_aload_n hx hb d_law_853 rfl (lv_at hl 0 rfl) ?_
  refine lv_iload_n hx hb d_law_854 rfl (lv_at hl 3 rfl) ?_
  refine lv_iconst (v := nI 3) hx hb d_law_855 (by decide) ?_
  refine nv_iadd hx hb d_law_856 ?_
  refine va_sld hx hb hX hbl hbA hS (vp_in_nI (by omega) (by omega)) d_law_857 ?_
  refine nv_topi (y := xs (i + 3)) (congrArg xs (nI_clamp (by omega))) ?_
  refine lv_i2l hx hb d_law_858 rfl ?_
  refine lv_ldc2 hx hb hown (hts (.constantLong "PartShelvesLaw" 18 4294967295) (by decide +kernel)) d_law_859 ?_
  refine lv_land hx hb d_law_862 ?_
  refine lv_lor hx hb d_law_863 ?_
  refine nv_topl (y := scL xs (i + 2)) rfl ?_
  refine lv_aload_n hx hb d_law_864 rfl (lv_at hl 0 rfl) ?_
  refine lv_iload_n hx hb d_law_865 rfl (lv_at hl 3 rfl) ?_
  refine lv_iconst (v := nI 4) hx hb d_law_866 (by decide) ?_
  refine nv_iadd hx hb d_law_867 ?_
  refine va_sld hx hb hX hbl hbA hS (vp_in_nI (by omega) (by omega)) d_law_868 ?_
  refine nv_topi (y := xs (i + 4)) (congrArg xs (nI_clamp (by omega))) ?_
  refine lv_i2l hx hb d_law_869 rfl ?_
  refine lv_bipush (v := nI 32) hx hb d_law_870 (by decide) ?_
  refine lv_lshl hx hb d_law_872 rfl ?_
  refine lv_aload_n hx hb d_law_873 rfl (lv_at hl 0 rfl) ?_
  refine lv_iload_n hx hb d_law_874 rfl (lv_at hl 3 rfl) ?_
  refine lv_iconst (v := nI 5) hx hb d_law_875 (by decide) ?_
  refine nv_iadd hx hb d_law_876 ?_
  refine va_sld hx hb hX hbl hbA hS (vp_in_nI (by omega) (by omega)) d_law_877 ?_
  refine nv_topi (y := xs (i + 5)) (congrArg xs (nI_clamp (by omega))) ?_
  refine lv_i2l hx hb d_law_878 rfl ?_
  refine lv_ldc2 hx hb hown (hts (.constantLong "PartShelvesLaw" 18 4294967295) (by decide +kernel)) d_law_879 ?_
  refine lv_land hx hb d_law_882 ?_
  refine lv_lor hx hb d_law_883 ?_
  refine nv_topl (y := scL xs (i + 4)) rfl ?_
  have hPx : va_P D cls (fl (cL kC eD cs)) H := fl_P hP 0 rfl
  have hrx := f_recv (ci := 0) (q0 := 0) hK hPx 0 rfl rfl rfl
  have hDx := fl_D hD 0 rfl
  refine g_calliG 0 (va_runV (As := [.int (xs (i + 1)), .long (scL xs (i + 2)), .long (scL xs (i + 4))]) (rest := []) ⟨hx, hb, hml, hown, hts⟩ (c_P_recall l D kC cs.ad cs.qR cs.lp cs.la cs.lj cs.qM cs.qN cs.ft cs.wr cs.tl cs.tn cs.bo cs.lD cs.td cs.rA cs.rC cs.rn eD cs.mdp cs.xp cs.pn cs.pa cs.kd cs.aG cs.sR cs.sT cs.dY cs.pho cs.ppe cs.mda cs.xa cs.an cs.aa cs.anu cs.pd cs.cN cs.mN cs.aop cs.rr cs.fc cs.ntot cs.ch cs.fp cs.mdj cs.xj cs.jn cs.ja cs.jx cs.jne cs.sh cs.be cs.ob cs.os cs.oc cs.ar cs.gi cs.pg cs.ag cs.mp cs.ma cs.prn cs.mtot (xs (i + 1)) (scL xs (i + 2)) (scL xs (i + 4)) H.size R.hpn R.hkd R.hsT) (cwV 3 hts g_law_P_recall rfl rfl rfl (by decide +kernel) ⟨Nat.le_of_ble_eq_true rfl, Nat.le_of_ble_eq_true rfl⟩) (z_preV hrx hz hS (fl_free hD hS hA 0 rfl) hK hPx hDx) rfl rfl hl.1 rfl (lv_room (Nat.le_of_ble_eq_true rfl)) d_law_884 ⟨rmC h3 0 0 (by decide), rmS h17 0 0 (by decide)⟩) hS hA hP hD rfl (fun H1 locs hP hD hS => ?_)
  refine lv_aload_n hx hb d_law_887 rfl (lv_at hl 2 rfl) ?_
  refine lv_aload_n hx hb d_law_888 rfl (lv_at hl 0 rfl) ?_
  refine lv_iload_n hx hb d_law_889 rfl (lv_at hl 3 rfl) ?_
  refine lv_iconst (v := nI 1) hx hb d_law_890 (by decide) ?_
  refine nv_iadd hx hb d_law_891 ?_
  refine va_sld hx hb hX hbl hbA hS (vp_in_nI (by omega) (by omega)) d_law_892 ?_
  refine nv_topi (y := xs (i + 1)) (congrArg xs (nI_clamp (by omega))) ?_
  refine lv_aload_n hx hb d_law_893 rfl (lv_at hl 0 rfl) ?_
  refine lv_iload_n hx hb d_law_894 rfl (lv_at hl 3 rfl) ?_
  refine lv_iconst (v := nI 2) hx hb d_law_895 (by decide) ?_
  refine nv_iadd hx hb d_law_896 ?_
  refine va_sld hx hb hX hbl hbA hS (vp_in_nI (by omega) (by omega)) d_law_897 ?_
  refine nv_topi (y := xs (i + 2)) (congrArg xs (nI_clamp (by omega))) ?_
  refine lv_i2l hx hb d_law_898 rfl ?_
  refine lv_bipush (v := nI 32) hx hb d_law_899 (by decide) ?_
  refine lv_lshl hx hb d_law_901 rfl ?_
  refine lv_aload_n hx hb d_law_902 rfl (lv_at hl 0 rfl) ?_
  refine lv_iload_n hx hb d_law_903 rfl (lv_at hl 3 rfl) ?_
  refine lv_iconst (v := nI 3) hx hb d_law_904 (by decide) ?_
  refine nv_iadd hx hb d_law_905 ?_
  refine va_sld hx hb hX hbl hbA hS (vp_in_nI (by omega) (by omega)) d_law_906 ?_
  refine nv_topi (y := xs (i + 3)) (congrArg xs (nI_clamp (by omega))) ?_
  refine lv_i2l hx hb d_law_907 rfl ?_
  refine lv_ldc2 hx hb hown (hts (.constantLong "PartShelvesLaw" 18 4294967295) (by decide +kernel)) d_law_908 ?_
  refine lv_land hx hb d_law_911 ?_
  refine lv_lor hx hb d_law_912 ?_
  refine nv_topl (y := scL xs (i + 2)) rfl ?_
  refine lv_aload_n hx hb d_law_913 rfl (lv_at hl 0 rfl) ?_
  refine lv_iload_n hx hb d_law_914 rfl (lv_at hl 3 rfl) ?_
  refine lv_iconst (v := nI 4) hx hb d_law_915 (by decide) ?_
  refine nv_iadd hx hb d_law_916 ?_
  refine va_sld hx hb hX hbl hbA hS (vp_in_nI (by omega) (by omega)) d_law_917 ?_
  refine nv_topi (y := xs (i + 4)) (congrArg xs (nI_clamp (by omega))) ?_
  refine lv_i2l hx hb d_law_918 rfl ?_
  refine lv_bipush (v := nI 32) hx hb d_law_919 (by decide) ?_
  refine lv_lshl hx hb d_law_921 rfl ?_
  refine lv_aload_n hx hb d_law_922 rfl (lv_at hl 0 rfl) ?_
  refine lv_iload_n hx hb d_law_923 rfl (lv_at hl 3 rfl) ?_
  refine lv_iconst (v := nI 5) hx hb d_law_924 (by decide) ?_
  refine nv_iadd hx hb d_law_925 ?_
  refine va_sld hx hb hX hbl hbA hS (vp_in_nI (by omega) (by omega)) d_law_926 ?_
  refine nv_topi (y := xs (i + 5)) (congrArg xs (nI_clamp (by omega))) ?_
  refine lv_i2l hx hb d_law_927 rfl ?_
  refine lv_ldc2 hx hb hown (hts (.constantLong "PartShelvesLaw" 18 4294967295) (by decide +kernel)) d_law_928 ?_
  refine lv_land hx hb d_law_931 ?_
  refine lv_lor hx hb d_law_932 ?_
  refine nv_topl (y := scL xs (i + 4)) rfl ?_
  have hPx : va_P D cls (fl (mL kC cs ms)) H1 := fl_P hP 1 rfl
  have hrx := f_recv (ci := 7) (q0 := 0) hK hPx 0 rfl rfl rfl
  have hDx := fl_D hD 1 rfl
  refine g_calliG 1 (va_runV (As := [.int (xs (i + 1)), .long (scL xs (i + 2)), .long (scL xs (i + 4))]) (rest := [.int _]) ⟨hx, hb, hml, hown, hts⟩ (c_O_recall l D kC ms.ad cs.td cs.rn cs.pn cs.an cs.jn cs.tn ms.bm ms.fw ms.gp ms.ga ms.bp ms.fc ms.fj cs.rA cs.rC cs.ft cs.kd cs.aG cs.sR cs.sT ms.wh cs.dY cs.pd cs.cN cs.mN ms.sv ms.nd cs.wr ms.tl ms.lt ms.lT cs.lD ms.gv ms.gn ms.od ms.br (xs (i + 1)) (scL xs (i + 2)) (scL xs (i + 4)) H1.size R.hpn R.hkd R.hsT) (cwV 3 hts g_law_O_recall rfl rfl rfl (by decide +kernel) ⟨Nat.le_of_ble_eq_true rfl, Nat.le_of_ble_eq_true rfl⟩) (g_preV hrx hK hPx hDx) rfl rfl hl.1 rfl (lv_room (Nat.le_of_ble_eq_true rfl)) d_law_933 ⟨rmC h3 0 0 (by decide), rmS h17 0 0 (by decide)⟩) hS hA hP hD rfl (fun H2 locs hP hD hS => ?_)
  refine lv_icmp_eq (tgt := 1053) hx hb d_law_936 (by decide) (fun _ => ?_) (fun z9 => absurd (rfl) z9)
  refine W.widen (k := cc + 3) (n := sc + 17) (by omega) (by omega) ?_
  refine kk _ _ H2 locs (st_recall R (xs (i + 1)) (scL xs (i + 2)) (scL xs (i + 4))) (by rw [mkCS_ad]) (by rw [mkMS_ad]) ?_ ?_ hS
  · rw [lawW_cm]; exact hP
  · rw [lawW_cm]; exact hD
