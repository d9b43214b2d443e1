set_option maxHeartbeats 4000000 in
set_option maxRecDepth 100000 in
/-- part -/
theorem law_part {p : Program} {l : Launch} {e : Env} {s : State} {m : MethodId} {below : List Frame} {meth : Method} {c : Code} {b L : Nat} {xs : Nat → Int32} {D : va_G} {kC : Nat → ClassId} {eD i cc sc : Nat} {cs : CS} {ms : MS} {H : Heap} {locs : List Loc} {ls : Array Slot} (h : LwH p s m meth c b L xs D kC eD i cc sc cs ms H locs ls) (kk : lwK p l e s m below meth c b D kC eD cc sc cs ms ls) : W p l e room_1 s m #[Value.ref b] below meth c H locs cc sc (lw_Z below #[Value.ref b] s) (F0 m 293 ls []) := by
  obtain ⟨⟨hx, hb, hr, hml, hown, hts, hX0, hbl, hlocks, hgv⟩, hK, hz, hL, hi, h3, h17, R, hP, hD, hS, hl⟩ := h
  have hX := hX0
  have hA : ∀ q : Nat, s.heap.size ≤ q → (fun q : Nat => s.heap.size ≤ q) q := fun _ h => h
  have hbA : ¬ (fun q : Nat => s.heap.size ≤ q) b := Nat.not_le.mpr hbl
  have hzw : zW s := hz.2.2
  refine lv_aload_n hx hb d_law_293 rfl (lv_at hl 1 rfl) ?_
  refine lv_aload_n hx hb d_law_294 rfl (lv_at hl 0 rfl) ?_
  refine lv_iload_n hx hb d_law_295 rfl (lv_at hl 3 rfl) ?_
  refine lv_iconst (v := nI 1) hx hb d_law_296 (by decide) ?_
  refine nv_iadd hx hb d_law_297 ?_
  refine va_sld hx hb hX hbl hbA hS (vp_in_nI (by omega) (by omega)) d_law_298 ?_
  refine nv_topi (y := xs (i + 1)) (congrArg xs (nI_clamp (by omega))) ?_
  refine lv_aload_n hx hb d_law_299 rfl (lv_at hl 0 rfl) ?_
  refine lv_iload_n hx hb d_law_300 rfl (lv_at hl 3 rfl) ?_
  refine lv_iconst (v := nI 2) hx hb d_law_301 (by decide) ?_
  refine nv_iadd hx hb d_law_302 ?_
  refine va_sld hx hb hX hbl hbA hS (vp_in_nI (by omega) (by omega)) d_law_303 ?_
  refine nv_topi (y := xs (i + 2)) (congrArg xs (nI_clamp (by omega))) ?_
  refine lv_aload_n hx hb d_law_304 rfl (lv_at hl 0 rfl) ?_
  refine lv_iload_n hx hb d_law_305 rfl (lv_at hl 3 rfl) ?_
  refine lv_iconst (v := nI 3) hx hb d_law_306 (by decide) ?_
  refine nv_iadd hx hb d_law_307 ?_
  refine va_sld hx hb hX hbl hbA hS (vp_in_nI (by omega) (by omega)) d_law_308 ?_
  refine nv_topi (y := xs (i + 3)) (congrArg xs (nI_clamp (by omega))) ?_
  refine lv_i2l hx hb d_law_309 rfl ?_
  refine lv_bipush (v := nI 32) hx hb d_law_310 (by decide) ?_
  refine lv_lshl hx hb d_law_312 rfl ?_
  refine lv_aload_n hx hb d_law_313 rfl (lv_at hl 0 rfl) ?_
  refine lv_iload_n hx hb d_law_314 rfl (lv_at hl 3 rfl) ?_
  refine lv_iconst (v := nI 4) hx hb d_law_315 (by decide) ?_
  refine nv_iadd hx hb d_law_316 ?_
  refine va_sld hx hb hX hbl hbA hS (vp_in_nI (by omega) (by omega)) d_law_317 ?_
  refine nv_topi (y := xs (i + 4)) (congrArg xs (nI_clamp (by omega))) ?_
  refine lv_i2l hx hb d_law_318 rfl ?_
  refine lv_ldc2 hx hb hown (hts (.constantLong "PartShelvesLaw" 18 4294967295) (by decide +kernel)) d_law_319 ?_
  refine lv_land hx hb d_law_322 ?_
  refine lv_lor hx hb d_law_323 ?_
  refine nv_topl (y := scL xs (i + 3)) rfl ?_
  have hPx : va_P D cls (fl (cL kC eD cs)) H := fl_P hP 0 rfl
  have hrx := f_recv (ci := 0) (q0 := 0) hK hPx 0 rfl rfl rfl
  have hDx := fl_D hD 0 rfl
  refine g_calliSG 0 (va_runV (As := [.int (xs (i + 1)), .int (xs (i + 2)), .long (scL xs (i + 3))]) (rest := []) ⟨hx, hb, hml, hown, hts⟩ (c_P_part l D kC cs.ad cs.qR cs.lp cs.la cs.lj cs.qM cs.qN cs.ft cs.wr cs.tl cs.tn cs.bo cs.lD cs.td cs.rA cs.rC cs.rn eD cs.mdp cs.xp cs.pn cs.pa cs.kd cs.aG cs.sR cs.sT cs.dY cs.pho cs.ppe cs.mda cs.xa cs.an cs.aa cs.anu cs.pd cs.cN cs.mN cs.aop cs.rr cs.fc cs.ntot cs.ch cs.fp cs.mdj cs.xj cs.jn cs.ja cs.jx cs.jne cs.sh cs.be cs.ob cs.os cs.oc cs.ar cs.gi cs.pg cs.ag cs.mp cs.ma cs.prn cs.mtot (xs (i + 1)) (xs (i + 2)) (scL xs (i + 3)) H.size R.hpn) (cwV 3 hts g_law_P_part rfl rfl rfl (by decide +kernel) ⟨Nat.le_of_ble_eq_true rfl, Nat.le_of_ble_eq_true rfl⟩) (z_preV hrx hz hS (fl_free hD hS hA 0 rfl) hK hPx hDx) rfl rfl hl.1 rfl (lv_room (Nat.le_of_ble_eq_true rfl)) d_law_324 ⟨rmC h3 0 2 (by decide), rmS h17 0 17 (by decide)⟩) hS hA hP hD rfl (fun rr9 u H1 locs hu hP hD hS => ?_)
  obtain rfl := hu
  refine lv_aload_n hx hb d_law_327 rfl (lv_at hl 2 rfl) ?_
  refine lv_aload_n hx hb d_law_328 rfl (lv_at hl 0 rfl) ?_
  refine lv_iload_n hx hb d_law_329 rfl (lv_at hl 3 rfl) ?_
  refine lv_iconst (v := nI 1) hx hb d_law_330 (by decide) ?_
  refine nv_iadd hx hb d_law_331 ?_
  refine va_sld hx hb hX hbl hbA hS (vp_in_nI (by omega) (by omega)) d_law_332 ?_
  refine nv_topi (y := xs (i + 1)) (congrArg xs (nI_clamp (by omega))) ?_
  refine lv_aload_n hx hb d_law_333 rfl (lv_at hl 0 rfl) ?_
  refine lv_iload_n hx hb d_law_334 rfl (lv_at hl 3 rfl) ?_
  refine lv_iconst (v := nI 2) hx hb d_law_335 (by decide) ?_
  refine nv_iadd hx hb d_law_336 ?_
  refine va_sld hx hb hX hbl hbA hS (vp_in_nI (by omega) (by omega)) d_law_337 ?_
  refine nv_topi (y := xs (i + 2)) (congrArg xs (nI_clamp (by omega))) ?_
  refine lv_aload_n hx hb d_law_338 rfl (lv_at hl 0 rfl) ?_
  refine lv_iload_n hx hb d_law_339 rfl (lv_at hl 3 rfl) ?_
  refine lv_iconst (v := nI 3) hx hb d_law_340 (by decide) ?_
  refine nv_iadd hx hb d_law_341 ?_
  refine va_sld hx hb hX hbl hbA hS (vp_in_nI (by omega) (by omega)) d_law_342 ?_
  refine nv_topi (y := xs (i + 3)) (congrArg xs (nI_clamp (by omega))) ?_
  refine lv_i2l hx hb d_law_343 rfl ?_
  refine lv_bipush (v := nI 32) hx hb d_law_344 (by decide) ?_
  refine lv_lshl hx hb d_law_346 rfl ?_
  refine lv_aload_n hx hb d_law_347 rfl (lv_at hl 0 rfl) ?_
  refine lv_iload_n hx hb d_law_348 rfl (lv_at hl 3 rfl) ?_
  refine lv_iconst (v := nI 4) hx hb d_law_349 (by decide) ?_
  refine nv_iadd hx hb d_law_350 ?_
  refine va_sld hx hb hX hbl hbA hS (vp_in_nI (by omega) (by omega)) d_law_351 ?_
  refine nv_topi (y := xs (i + 4)) (congrArg xs (nI_clamp (by omega))) ?_
  refine lv_i2l hx hb d_law_352 rfl ?_
  refine lv_ldc2 hx hb hown (hts (.constantLong "PartShelvesLaw" 18 4294967295) (by decide +kernel)) d_law_353 ?_
  refine lv_land hx hb d_law_356 ?_
  refine lv_lor hx hb d_law_357 ?_
  refine nv_topl (y := scL xs (i + 3)) rfl ?_
  have hPx : va_P D cls (fl (mL kC cs ms)) H1 := fl_P hP 1 rfl
  have hrx := f_recv (ci := 7) (q0 := 0) hK hPx 0 rfl rfl rfl
  have hDx := fl_D hD 1 rfl
  refine g_calliG 1 (va_runV (As := [.int (xs (i + 1)), .int (xs (i + 2)), .long (scL xs (i + 3))]) (rest := [.int _]) ⟨hx, hb, hml, hown, hts⟩ (c_O_part l D kC ms.ad cs.td cs.rn cs.pn cs.an cs.jn cs.tn ms.bm ms.fw ms.gp ms.ga ms.bp ms.fc ms.fj cs.rA cs.rC cs.ft cs.kd cs.aG cs.sR cs.sT ms.wh cs.dY cs.pd cs.cN cs.mN ms.sv ms.nd cs.wr ms.tl ms.lt ms.lT cs.lD ms.gv ms.gn ms.od ms.br (xs (i + 1)) (xs (i + 2)) (scL xs (i + 3)) H1.size R.hpn) (cwV 3 hts g_law_O_part rfl rfl rfl (by decide +kernel) ⟨Nat.le_of_ble_eq_true rfl, Nat.le_of_ble_eq_true rfl⟩) (g_preV hrx hK hPx hDx) rfl rfl hl.1 rfl (lv_room (Nat.le_of_ble_eq_true rfl)) d_law_358 ⟨rmC h3 2 0 (by decide), rmS h17 17 0 (by decide)⟩) hS hA hP hD rfl (fun H2 locs hP hD hS => ?_)
  refine lv_icmp_eq (tgt := 1053) hx hb d_law_361 (by decide) (fun _ => ?_) (fun z9 => absurd (rfl) z9)
  refine W.widen (k := cc + 3) (n := sc + 17) (by omega) (by omega) ?_
  have e1 := st_part_sT R (xs (i + 1)) (xs (i + 2)) (scL xs (i + 3))
  have e2 := st_part_dY R (xs (i + 1)) (xs (i + 2)) (scL xs (i + 3))
  rw [e1, e2] at hP hD
  refine kk _ ms H2 locs (st_part R (xs (i + 1)) (xs (i + 2)) (scL xs (i + 3)) u.1 u.2.1 u.2.2) (by rw [mkCS_ad]) rfl ?_ ?_ hS
  · rw [lawW_c]; exact hP
  · rw [lawW_c]; exact hD
set_option maxHeartbeats 4000000 in
set_option maxRecDepth 100000 in
/-- price -/
theorem law_price {p : Program} {l : Launch} {e : Env} {s : State} {m : MethodId} {below : List Frame} {meth : Method} {c : Code} {b L : Nat} {xs : Nat → Int32} {D : va_G} {kC : Nat → ClassId} {eD i cc sc : Nat} {cs : CS} {ms : MS} {H : Heap} {locs : List Loc} {ls : Array Slot} (h : LwH p s m meth c b L xs D kC eD i cc sc cs ms H locs ls) (kk : lwK p l e s m below meth c b D kC eD cc sc cs ms ls) : W p l e room_1 s m #[Value.ref b] below meth c H locs cc sc (lw_Z below #[Value.ref b] s) (F0 m 366 ls []) := by
  obtain ⟨⟨hx, hb, hr, hml, hown, hts, hX0, hbl, hlocks, hgv⟩, hK, hz, hL, hi, h3, h17, R, hP, hD, hS, hl⟩ := h
  have hX := hX0
  have hA : ∀ q : Nat, s.heap.size ≤ q → (fun q : Nat => s.heap.size ≤ q) q := fun _ h => h
  have hbA : ¬ (fun q : Nat => s.heap.size ≤ q) b := Nat.not_le.mpr hbl
  have hzw : zW s := hz.2.2
  refine lv_aload_n hx hb d_law_366 rfl (lv_at hl 1 rfl) ?_
  refine lv_aload_n hx hb d_law_367 rfl (lv_at hl 0 rfl) ?_
  refine lv_iload_n hx hb d_law_368 rfl (lv_at hl 3 rfl) ?_
  refine lv_iconst (v := nI 1) hx hb d_law_369 (by decide) ?_
  refine nv_iadd hx hb d_law_370 ?_
  refine va_sld hx hb hX hbl hbA hS (vp_in_nI (by omega) (by omega)) d_law_371 ?_
  refine nv_topi (y := xs (i + 1)) (congrArg xs (nI_clamp (by omega))) ?_
  have hPx : va_P D cls (fl (cL kC eD cs)) H := fl_P hP 0 rfl
  have hrx := f_recv (ci := 0) (q0 := 0) hK hPx 0 rfl rfl rfl
  refine r_calll (W.runV (As := [.int (xs (i + 1))]) (rest := []) ⟨hx, hb, hml, hown, hts⟩ (c_P_price l D kC cs.ad cs.qR cs.lp cs.la cs.lj cs.qM cs.qN cs.ft cs.wr cs.tl cs.tn cs.bo cs.lD cs.td cs.rA cs.rC cs.rn eD cs.mdp cs.xp cs.pn cs.pa cs.kd cs.aG cs.sR cs.sT cs.dY cs.pho cs.ppe (xs (i + 1)) R.hpn R.hrn R.hrA R.haG) (cwV 1 hts g_law_P_price rfl rfl rfl (by decide +kernel) ⟨Nat.le_of_ble_eq_true rfl, Nat.le_of_ble_eq_true rfl⟩) (rz_preV hzw hrx hK (fl_sub hPx [0, 1, 2, 3] rfl)) rfl rfl hl.1 rfl (lv_room (Nat.le_of_ble_eq_true rfl)) d_law_372 ⟨rmC h3 0 0 (by decide), rmS h17 0 0 (by decide)⟩) ?_
  refine lv_aload_n hx hb d_law_375 rfl (lv_at hl 2 rfl) ?_
  refine lv_aload_n hx hb d_law_376 rfl (lv_at hl 0 rfl) ?_
  refine lv_iload_n hx hb d_law_377 rfl (lv_at hl 3 rfl) ?_
  refine lv_iconst (v := nI 1) hx hb d_law_378 (by decide) ?_
  refine nv_iadd hx hb d_law_379 ?_
  refine va_sld hx hb hX hbl hbA hS (vp_in_nI (by omega) (by omega)) d_law_380 ?_
  refine nv_topi (y := xs (i + 1)) (congrArg xs (nI_clamp (by omega))) ?_
  have hPx : va_P D cls (fl (mL kC cs ms)) H := fl_P hP 1 rfl
  have hrx := f_recv (ci := 7) (q0 := 0) hK hPx 0 rfl rfl rfl
  refine r_calll (W.runV (As := [.int (xs (i + 1))]) (rest := [.long _]) ⟨hx, hb, hml, hown, hts⟩ (c_O_price l D kC ms.ad cs.td cs.rn cs.pn cs.an cs.jn cs.tn ms.bm ms.fw ms.gp ms.ga ms.bp ms.fc ms.fj cs.rA cs.rC cs.ft cs.kd cs.aG cs.sR cs.sT ms.wh cs.dY cs.pd cs.cN cs.mN ms.sv ms.nd cs.wr ms.tl ms.lt ms.lT cs.lD ms.gv ms.gn ms.od ms.br (xs (i + 1)) R.hpn R.hrn R.hrA R.haG) (cwV 1 hts g_law_O_price rfl rfl rfl (by decide +kernel) ⟨Nat.le_of_ble_eq_true rfl, Nat.le_of_ble_eq_true rfl⟩) (r_preV hrx hK hPx) rfl rfl hl.1 rfl (lv_room (Nat.le_of_ble_eq_true rfl)) d_law_381 ⟨rmC h3 0 0 (by decide), rmS h17 0 0 (by decide)⟩) ?_
  refine lc_eq (tgt := 1053) hx hb d_law_384 d_law_385 (by decide) (fun _ => ?_) (fun z9 => absurd (rfl) z9)
  refine W.widen (k := cc + 3) (n := sc + 17) (by omega) (by omega) ?_
  exact kk cs ms H locs R rfl rfl hP hD hS
set_option maxHeartbeats 4000000 in
set_option maxRecDepth 100000 in
/-- state -/
theorem law_state {p : Program} {l : Launch} {e : Env} {s : State} {m : MethodId} {below : List Frame} {meth : Method} {c : Code} {b L : Nat} {xs : Nat → Int32} {D : va_G} {kC : Nat → ClassId} {eD i cc sc : Nat} {cs : CS} {ms : MS} {H : Heap} {locs : List Loc} {ls : Array Slot} (h : LwH p s m meth c b L xs D kC eD i cc sc cs ms H locs ls) (kk : lwK p l e s m below meth c b D kC eD cc sc cs ms ls) : W p l e room_1 s m #[Value.ref b] below meth c H locs cc sc (lw_Z below #[Value.ref b] s) (F0 m 390 ls []) := by
  obtain ⟨⟨hx, hb, hr, hml, hown, hts, hX0, hbl, hlocks, hgv⟩, hK, hz, hL, hi, h3, h17, R, hP, hD, hS, hl⟩ := h
  have hX := hX0
  have hA : ∀ q : Nat, s.heap.size ≤ q → (fun q : Nat => s.heap.size ≤ q) q := fun _ h => h
  have hbA : ¬ (fun q : Nat => s.heap.size ≤ q) b := Nat.not_le.mpr hbl
  have hzw : zW s := hz.2.2
  refine lv_aload_n hx hb d_law_390 rfl (lv_at hl 1 rfl) ?_
  refine lv_aload_n hx hb d_law_391 rfl (lv_at hl 0 rfl) ?_
  refine lv_iload_n hx hb d_law_392 rfl (lv_at hl 3 rfl) ?_
  refine lv_iconst (v := nI 1) hx hb d_law_393 (by decide) ?_
  refine nv_iadd hx hb d_law_394 ?_
  refine va_sld hx hb hX hbl hbA hS (vp_in_nI (by omega) (by omega)) d_law_395 ?_
  refine nv_topi (y := xs (i + 1)) (congrArg xs (nI_clamp (by omega))) ?_
  have hPx : va_P D cls (fl (cL kC eD cs)) H := fl_P hP 0 rfl
  have hrx := f_recv (ci := 0) (q0 := 0) hK hPx 0 rfl rfl rfl
  refine r_calli (W.runV (As := [.int (xs (i + 1))]) (rest := []) ⟨hx, hb, hml, hown, hts⟩ (c_P_state l D kC cs.ad cs.qR cs.lp cs.la cs.lj cs.qM cs.qN cs.ft cs.wr cs.tl cs.tn cs.bo cs.lD cs.td eD cs.mdp cs.xp cs.pn cs.pa cs.kd cs.aG cs.sR cs.sT cs.dY cs.pho cs.ppe (xs (i + 1)) R.hpn R.hsT R.hdY R.htd) (cwV 1 hts g_law_P_state rfl rfl rfl (by decide +kernel) ⟨Nat.le_of_ble_eq_true rfl, Nat.le_of_ble_eq_true rfl⟩) (rz_preV hzw hrx hK (fl_sub hPx [0, 2, 3] rfl)) rfl rfl hl.1 rfl (lv_room (Nat.le_of_ble_eq_true rfl)) d_law_396 ⟨rmC h3 0 0 (by decide), rmS h17 0 0 (by decide)⟩) ?_
  refine lv_aload_n hx hb d_law_399 rfl (lv_at hl 2 rfl) ?_
  refine lv_aload_n hx hb d_law_400 rfl (lv_at hl 0 rfl) ?_
  refine lv_iload_n hx hb d_law_401 rfl (lv_at hl 3 rfl) ?_
  refine lv_iconst (v := nI 1) hx hb d_law_402 (by decide) ?_
  refine nv_iadd hx hb d_law_403 ?_
  refine va_sld hx hb hX hbl hbA hS (vp_in_nI (by omega) (by omega)) d_law_404 ?_
  refine nv_topi (y := xs (i + 1)) (congrArg xs (nI_clamp (by omega))) ?_
  have hPx : va_P D cls (fl (mL kC cs ms)) H := fl_P hP 1 rfl
  have hrx := f_recv (ci := 7) (q0 := 0) hK hPx 0 rfl rfl rfl
  refine r_calli (W.runV (As := [.int (xs (i + 1))]) (rest := [.int _]) ⟨hx, hb, hml, hown, hts⟩ (c_O_state l D kC ms.ad cs.td cs.rn cs.pn cs.an cs.jn cs.tn ms.bm ms.fw ms.gp ms.ga ms.bp ms.fc ms.fj cs.rA cs.rC cs.ft cs.kd cs.aG cs.sR cs.sT ms.wh cs.dY cs.pd cs.cN cs.mN ms.sv ms.nd cs.wr ms.tl ms.lt ms.lT cs.lD ms.gv ms.gn ms.od ms.br (xs (i + 1)) R.hpn R.hsT R.hdY R.htd) (cwV 1 hts g_law_O_state rfl rfl rfl (by decide +kernel) ⟨Nat.le_of_ble_eq_true rfl, Nat.le_of_ble_eq_true rfl⟩) (r_preV hrx hK hPx) rfl rfl hl.1 rfl (lv_room (Nat.le_of_ble_eq_true rfl)) d_law_405 ⟨rmC h3 0 0 (by decide), rmS h17 0 0 (by decide)⟩) ?_
  refine lv_icmp_eq (tgt := 1053) hx hb d_law_408 (by decide) (fun _ => ?_) (fun z9 => absurd (rfl) z9)
  refine W.widen (k := cc + 3) (n := sc + 17) (by omega) (by omega) ?_
  exact kk cs ms H locs R rfl rfl hP hD hS
