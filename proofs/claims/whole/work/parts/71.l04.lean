set_option maxHeartbeats 4000000 in
set_option maxRecDepth 100000 in
/-- ask -/
theorem law_ask {p : Program} {l : Launch} {e : Env} {s : State} {m : MethodId} {below : List Frame} {meth : Method} {c : Code} {b L : Nat} {xs : Nat → Int32} {D : va_G} {kC : Nat → ClassId} {eD i cc sc : Nat} {cs : CS} {ms : MS} {H : Heap} {locs : List Loc} {ls : Array Slot} (h : LwH p s m meth c b L xs D kC eD i cc sc cs ms H locs ls) (kk : lwK p l e s m below meth c b D kC eD cc sc cs ms ls) : W p l e room_1 s m #[Value.ref b] below meth c H locs cc sc (lw_Z below #[Value.ref b] s) (F0 m 413 ls []) := by
  obtain ⟨⟨hx, hb, hr, hml, hown, hts, hX0, hbl, hlocks, hgv⟩, hK, hz, hL, hi, h3, h17, R, hP, hD, hS, hl⟩ := h
  have hX := hX0
  have hA : ∀ q : Nat, s.heap.size ≤ q → (fun q : Nat => s.heap.size ≤ q) q := fun _ h => h
  have hbA : ¬ (fun q : Nat => s.heap.size ≤ q) b := Nat.not_le.mpr hbl
  have hzw : zW s := hz.2.2
  refine lv_aload_n hx hb d_law_413 rfl (lv_at hl 1 rfl) ?_
  refine lv_aload_n hx hb d_law_414 rfl (lv_at hl 0 rfl) ?_
  refine lv_iload_n hx hb d_law_415 rfl (lv_at hl 3 rfl) ?_
  refine lv_iconst (v := nI 1) hx hb d_law_416 (by decide) ?_
  refine nv_iadd hx hb d_law_417 ?_
  refine va_sld hx hb hX hbl hbA hS (vp_in_nI (by omega) (by omega)) d_law_418 ?_
  refine nv_topi (y := xs (i + 1)) (congrArg xs (nI_clamp (by omega))) ?_
  refine lv_aload_n hx hb d_law_419 rfl (lv_at hl 0 rfl) ?_
  refine lv_iload_n hx hb d_law_420 rfl (lv_at hl 3 rfl) ?_
  refine lv_iconst (v := nI 2) hx hb d_law_421 (by decide) ?_
  refine nv_iadd hx hb d_law_422 ?_
  refine va_sld hx hb hX hbl hbA hS (vp_in_nI (by omega) (by omega)) d_law_423 ?_
  refine nv_topi (y := xs (i + 2)) (congrArg xs (nI_clamp (by omega))) ?_
  refine lv_i2l hx hb d_law_424 rfl ?_
  refine lv_bipush (v := nI 32) hx hb d_law_425 (by decide) ?_
  refine lv_lshl hx hb d_law_427 rfl ?_
  refine lv_aload_n hx hb d_law_428 rfl (lv_at hl 0 rfl) ?_
  refine lv_iload_n hx hb d_law_429 rfl (lv_at hl 3 rfl) ?_
  refine lv_iconst (v := nI 3) hx hb d_law_430 (by decide) ?_
  refine nv_iadd hx hb d_law_431 ?_
  refine va_sld hx hb hX hbl hbA hS (vp_in_nI (by omega) (by omega)) d_law_432 ?_
  refine nv_topi (y := xs (i + 3)) (congrArg xs (nI_clamp (by omega))) ?_
  refine lv_i2l hx hb d_law_433 rfl ?_
  refine lv_ldc2 hx hb hown (hts (.constantLong "PartShelvesLaw" 18 4294967295) (by decide +kernel)) d_law_434 ?_
  refine lv_land hx hb d_law_437 ?_
  refine lv_lor hx hb d_law_438 ?_
  refine nv_topl (y := scL xs (i + 2)) rfl ?_
  refine lv_aload_n hx hb d_law_439 rfl (lv_at hl 0 rfl) ?_
  refine lv_iload_n hx hb d_law_440 rfl (lv_at hl 3 rfl) ?_
  refine lv_iconst (v := nI 4) hx hb d_law_441 (by decide) ?_
  refine nv_iadd hx hb d_law_442 ?_
  refine va_sld hx hb hX hbl hbA hS (vp_in_nI (by omega) (by omega)) d_law_443 ?_
  refine nv_topi (y := xs (i + 4)) (congrArg xs (nI_clamp (by omega))) ?_
  refine lv_i2l hx hb d_law_444 rfl ?_
  refine lv_bipush (v := nI 32) hx hb d_law_445 (by decide) ?_
  refine lv_lshl hx hb d_law_447 rfl ?_
  refine lv_aload_n hx hb d_law_448 rfl (lv_at hl 0 rfl) ?_
  refine lv_iload_n hx hb d_law_449 rfl (lv_at hl 3 rfl) ?_
  refine lv_iconst (v := nI 5) hx hb d_law_450 (by decide) ?_
  refine nv_iadd hx hb d_law_451 ?_
  refine va_sld hx hb hX hbl hbA hS (vp_in_nI (by omega) (by omega)) d_law_452 ?_
  refine nv_topi (y := xs (i + 5)) (congrArg xs (nI_clamp (by omega))) ?_
  refine lv_i2l hx hb d_law_453 rfl ?_
  refine lv_ldc2 hx hb hown (hts (.constantLong "PartShelvesLaw" 18 4294967295) (by decide +kernel)) d_law_454 ?_
  refine lv_land hx hb d_law_457 ?_
  refine lv_lor hx hb d_law_458 ?_
  refine nv_topl (y := scL xs (i + 4)) rfl ?_
  have hPx : va_P D cls (fl (cL kC eD cs)) H := fl_P hP 0 rfl
  have hrx := f_recv (ci := 0) (q0 := 0) hK hPx 0 rfl rfl rfl
  have hDx := fl_D hD 0 rfl
  refine g_calliSG 0 (va_runV (As := [.int (xs (i + 1)), .long (scL xs (i + 2)), .long (scL xs (i + 4))]) (rest := []) ⟨hx, hb, hml, hown, hts⟩ (c_P_ask l D kC cs.ad cs.qR cs.lp cs.la cs.lj cs.qM cs.qN cs.ft cs.wr cs.tl cs.tn cs.bo cs.lD cs.td cs.rA cs.rC cs.rn eD cs.mdp cs.xp cs.pn cs.pa cs.kd cs.aG cs.sR cs.sT cs.dY cs.pho cs.ppe cs.mda cs.xa cs.an cs.aa cs.anu cs.pd cs.cN cs.mN cs.aop cs.rr cs.fc cs.ntot cs.ch cs.fp cs.mdj cs.xj cs.jn cs.ja cs.jx cs.jne cs.sh cs.be cs.ob cs.os cs.oc cs.ar cs.gi cs.pg cs.ag cs.mp cs.ma cs.prn cs.mtot (xs (i + 1)) (scL xs (i + 2)) (scL xs (i + 4)) H.size R.han) (cwV 3 hts g_law_P_ask rfl rfl rfl (by decide +kernel) ⟨Nat.le_of_ble_eq_true rfl, Nat.le_of_ble_eq_true rfl⟩) (z_preV hrx hz hS (fl_free hD hS hA 0 rfl) hK hPx hDx) rfl rfl hl.1 rfl (lv_room (Nat.le_of_ble_eq_true rfl)) d_law_459 ⟨rmC h3 0 2 (by decide), rmS h17 0 15 (by decide)⟩) hS hA hP hD rfl (fun rr9 u H1 locs hu hP hD hS => ?_)
  obtain rfl := hu
  refine lv_aload_n hx hb d_law_462 rfl (lv_at hl 2 rfl) ?_
  refine lv_aload_n hx hb d_law_463 rfl (lv_at hl 0 rfl) ?_
  refine lv_iload_n hx hb d_law_464 rfl (lv_at hl 3 rfl) ?_
  refine lv_iconst (v := nI 1) hx hb d_law_465 (by decide) ?_
  refine nv_iadd hx hb d_law_466 ?_
  refine va_sld hx hb hX hbl hbA hS (vp_in_nI (by omega) (by omega)) d_law_467 ?_
  refine nv_topi (y := xs (i + 1)) (congrArg xs (nI_clamp (by omega))) ?_
  refine lv_aload_n hx hb d_law_468 rfl (lv_at hl 0 rfl) ?_
  refine lv_iload_n hx hb d_law_469 rfl (lv_at hl 3 rfl) ?_
  refine lv_iconst (v := nI 2) hx hb d_law_470 (by decide) ?_
  refine nv_iadd hx hb d_law_471 ?_
  refine va_sld hx hb hX hbl hbA hS (vp_in_nI (by omega) (by omega)) d_law_472 ?_
  refine nv_topi (y := xs (i + 2)) (congrArg xs (nI_clamp (by omega))) ?_
  refine lv_i2l hx hb d_law_473 rfl ?_
  refine lv_bipush (v := nI 32) hx hb d_law_474 (by decide) ?_
  refine lv_lshl hx hb d_law_476 rfl ?_
  refine lv_aload_n hx hb d_law_477 rfl (lv_at hl 0 rfl) ?_
  refine lv_iload_n hx hb d_law_478 rfl (lv_at hl 3 rfl) ?_
  refine lv_iconst (v := nI 3) hx hb d_law_479 (by decide) ?_
  refine nv_iadd hx hb d_law_480 ?_
  refine va_sld hx hb hX hbl hbA hS (vp_in_nI (by omega) (by omega)) d_law_481 ?_
  refine nv_topi (y := xs (i + 3)) (congrArg xs (nI_clamp (by omega))) ?_
  refine lv_i2l hx hb d_law_482 rfl ?_
  refine lv_ldc2 hx hb hown (hts (.constantLong "PartShelvesLaw" 18 4294967295) (by decide +kernel)) d_law_483 ?_
  refine lv_land hx hb d_law_486 ?_
  refine lv_lor hx hb d_law_487 ?_
  refine nv_topl (y := scL xs (i + 2)) rfl ?_
  refine lv_aload_n hx hb d_law_488 rfl (lv_at hl 0 rfl) ?_
  refine lv_iload_n hx hb d_law_489 rfl (lv_at hl 3 rfl) ?_
  refine lv_iconst (v := nI 4) hx hb d_law_490 (by decide) ?_
  refine nv_iadd hx hb d_law_491 ?_
  refine va_sld hx hb hX hbl hbA hS (vp_in_nI (by omega) (by omega)) d_law_492 ?_
  refine nv_topi (y := xs (i + 4)) (congrArg xs (nI_clamp (by omega))) ?_
  refine lv_i2l hx hb d_law_493 rfl ?_
  refine lv_bipush (v := nI 32) hx hb d_law_494 (by decide) ?_
  refine lv_lshl hx hb d_law_496 rfl ?_
  refine lv_aload_n hx hb d_law_497 rfl (lv_at hl 0 rfl) ?_
  refine lv_iload_n hx hb d_law_498 rfl (lv_at hl 3 rfl) ?_
  refine lv_iconst (v := nI 5) hx hb d_law_499 (by decide) ?_
  refine nv_iadd hx hb d_law_500 ?_
  refine va_sld hx hb hX hbl hbA hS (vp_in_nI (by omega) (by omega)) d_law_501 ?_
  refine nv_topi (y := xs (i + 5)) (congrArg xs (nI_clamp (by omega))) ?_
  refine lv_i2l hx hb d_law_502 rfl ?_
  refine lv_ldc2 hx hb hown (hts (.constantLong "PartShelvesLaw" 18 4294967295) (by decide +kernel)) d_law_503 ?_
  refine lv_land hx hb d_law_506 ?_
  refine lv_lor hx hb d_law_507 ?_
  refine nv_topl (y := scL xs (i + 4)) rfl ?_
  have hPx : va_P D cls (fl (mL kC cs ms)) H1 := fl_P hP 1 rfl
  have hrx := f_recv (ci := 7) (q0 := 0) hK hPx 0 rfl rfl rfl
  have hDx := fl_D hD 1 rfl
  refine g_calliG 1 (va_runV (As := [.int (xs (i + 1)), .long (scL xs (i + 2)), .long (scL xs (i + 4))]) (rest := [.int _]) ⟨hx, hb, hml, hown, hts⟩ (c_O_ask l D kC ms.ad cs.td cs.rn cs.pn cs.an cs.jn cs.tn ms.bm ms.fw ms.gp ms.ga ms.bp ms.fc ms.fj cs.rA cs.rC cs.ft cs.kd cs.aG cs.sR cs.sT ms.wh cs.dY cs.pd cs.cN cs.mN ms.sv ms.nd cs.wr ms.tl ms.lt ms.lT cs.lD ms.gv ms.gn ms.od ms.br (xs (i + 1)) (scL xs (i + 2)) (scL xs (i + 4)) H1.size R.han) (cwV 3 hts g_law_O_ask rfl rfl rfl (by decide +kernel) ⟨Nat.le_of_ble_eq_true rfl, Nat.le_of_ble_eq_true rfl⟩) (g_preV hrx hK hPx hDx) rfl rfl hl.1 rfl (lv_room (Nat.le_of_ble_eq_true rfl)) d_law_508 ⟨rmC h3 2 0 (by decide), rmS h17 15 0 (by decide)⟩) hS hA hP hD rfl (fun H2 locs hP hD hS => ?_)
  refine lv_icmp_eq (tgt := 1053) hx hb d_law_511 (by decide) (fun _ => ?_) (fun z9 => absurd (rfl) z9)
  refine W.widen (k := cc + 3) (n := sc + 17) (by omega) (by omega) ?_
  refine kk _ ms H2 locs (st_ask R (xs (i + 1)) (scL xs (i + 2)) (scL xs (i + 4)) u.1 u.2.1 u.2.2) (by rw [mkCS_ad]) rfl ?_ ?_ hS
  · rw [lawW_c]; exact hP
  · rw [lawW_c]; exact hD
set_option maxHeartbeats 4000000 in
set_option maxRecDepth 100000 in
/-- hold -/
theorem law_hold {p : Program} {l : Launch} {e : Env} {s : State} {m : MethodId} {below : List Frame} {meth : Method} {c : Code} {b L : Nat} {xs : Nat → Int32} {D : va_G} {kC : Nat → ClassId} {eD i cc sc : Nat} {cs : CS} {ms : MS} {H : Heap} {locs : List Loc} {ls : Array Slot} (h : LwH p s m meth c b L xs D kC eD i cc sc cs ms H locs ls) (kk : lwK p l e s m below meth c b D kC eD cc sc cs ms ls) : W p l e room_1 s m #[Value.ref b] below meth c H locs cc sc (lw_Z below #[Value.ref b] s) (F0 m 516 ls []) := by
  obtain ⟨⟨hx, hb, hr, hml, hown, hts, hX0, hbl, hlocks, hgv⟩, hK, hz, hL, hi, h3, h17, R, hP, hD, hS, hl⟩ := h
  have hX := hX0
  have hA : ∀ q : Nat, s.heap.size ≤ q → (fun q : Nat => s.heap.size ≤ q) q := fun _ h => h
  have hbA : ¬ (fun q : Nat => s.heap.size ≤ q) b := Nat.not_le.mpr hbl
  have hzw : zW s := hz.2.2
  refine lv_aload_n hx hb d_law_516 rfl (lv_at hl 1 rfl) ?_
  refine lv_aload_n hx hb d_law_517 rfl (lv_at hl 0 rfl) ?_
  refine lv_iload_n hx hb d_law_518 rfl (lv_at hl 3 rfl) ?_
  refine lv_iconst (v := nI 1) hx hb d_law_519 (by decide) ?_
  refine nv_iadd hx hb d_law_520 ?_
  refine va_sld hx hb hX hbl hbA hS (vp_in_nI (by omega) (by omega)) d_law_521 ?_
  refine nv_topi (y := xs (i + 1)) (congrArg xs (nI_clamp (by omega))) ?_
  refine lv_aload_n hx hb d_law_522 rfl (lv_at hl 0 rfl) ?_
  refine lv_iload_n hx hb d_law_523 rfl (lv_at hl 3 rfl) ?_
  refine lv_iconst (v := nI 2) hx hb d_law_524 (by decide) ?_
  refine nv_iadd hx hb d_law_525 ?_
  refine va_sld hx hb hX hbl hbA hS (vp_in_nI (by omega) (by omega)) d_law_526 ?_
  refine nv_topi (y := xs (i + 2)) (congrArg xs (nI_clamp (by omega))) ?_
  refine lv_aload_n hx hb d_law_527 rfl (lv_at hl 0 rfl) ?_
  refine lv_iload_n hx hb d_law_528 rfl (lv_at hl 3 rfl) ?_
  refine lv_iconst (v := nI 3) hx hb d_law_529 (by decide) ?_
  refine nv_iadd hx hb d_law_530 ?_
  refine va_sld hx hb hX hbl hbA hS (vp_in_nI (by omega) (by omega)) d_law_531 ?_
  refine nv_topi (y := xs (i + 3)) (congrArg xs (nI_clamp (by omega))) ?_
  have hPx : va_P D cls (fl (cL kC eD cs)) H := fl_P hP 0 rfl
  have hrx := f_recv (ci := 0) (q0 := 0) hK hPx 0 rfl rfl rfl
  have hDx := fl_D hD 0 rfl
  refine g_calliG 0 (va_runV (As := [.int (xs (i + 1)), .int (xs (i + 2)), .int (xs (i + 3))]) (rest := []) ⟨hx, hb, hml, hown, hts⟩ (c_P_hold l D kC cs.ad cs.qR cs.lp cs.la cs.lj cs.qM cs.qN cs.ft cs.wr cs.tl cs.tn cs.bo cs.lD cs.td cs.rA cs.rC cs.rn eD cs.mdp cs.xp cs.pn cs.pa cs.kd cs.aG cs.sR cs.sT cs.dY cs.pho cs.ppe cs.mda cs.xa cs.an cs.aa cs.anu cs.pd cs.cN cs.mN cs.aop cs.rr cs.fc cs.ntot cs.ch cs.fp cs.mdj cs.xj cs.jn cs.ja cs.jx cs.jne cs.sh cs.be cs.ob cs.os cs.oc cs.ar cs.gi cs.pg cs.ag cs.mp cs.ma cs.prn cs.mtot (xs (i + 1)) (xs (i + 2)) (xs (i + 3)) H.size R.hpn R.han R.hsT R.hdY R.htd) (cwV 3 hts g_law_P_hold rfl rfl rfl (by decide +kernel) ⟨Nat.le_of_ble_eq_true rfl, Nat.le_of_ble_eq_true rfl⟩) (z_preV hrx hz hS (fl_free hD hS hA 0 rfl) hK hPx hDx) rfl rfl hl.1 rfl (lv_room (Nat.le_of_ble_eq_true rfl)) d_law_532 ⟨rmC h3 0 0 (by decide), rmS h17 0 0 (by decide)⟩) hS hA hP hD rfl (fun H1 locs hP hD hS => ?_)
  refine lv_aload_n hx hb d_law_535 rfl (lv_at hl 2 rfl) ?_
  refine lv_aload_n hx hb d_law_536 rfl (lv_at hl 0 rfl) ?_
  refine lv_iload_n hx hb d_law_537 rfl (lv_at hl 3 rfl) ?_
  refine lv_iconst (v := nI 1) hx hb d_law_538 (by decide) ?_
  refine nv_iadd hx hb d_law_539 ?_
  refine va_sld hx hb hX hbl hbA hS (vp_in_nI (by omega) (by omega)) d_law_540 ?_
  refine nv_topi (y := xs (i + 1)) (congrArg xs (nI_clamp (by omega))) ?_
  refine lv_aload_n hx hb d_law_541 rfl (lv_at hl 0 rfl) ?_
  refine lv_iload_n hx hb d_law_542 rfl (lv_at hl 3 rfl) ?_
  refine lv_iconst (v := nI 2) hx hb d_law_543 (by decide) ?_
  refine nv_iadd hx hb d_law_544 ?_
  refine va_sld hx hb hX hbl hbA hS (vp_in_nI (by omega) (by omega)) d_law_545 ?_
  refine nv_topi (y := xs (i + 2)) (congrArg xs (nI_clamp (by omega))) ?_
  refine lv_aload_n hx hb d_law_546 rfl (lv_at hl 0 rfl) ?_
  refine lv_iload_n hx hb d_law_547 rfl (lv_at hl 3 rfl) ?_
  refine lv_iconst (v := nI 3) hx hb d_law_548 (by decide) ?_
  refine nv_iadd hx hb d_law_549 ?_
  refine va_sld hx hb hX hbl hbA hS (vp_in_nI (by omega) (by omega)) d_law_550 ?_
  refine nv_topi (y := xs (i + 3)) (congrArg xs (nI_clamp (by omega))) ?_
  have hPx : va_P D cls (fl (mL kC cs ms)) H1 := fl_P hP 1 rfl
  have hrx := f_recv (ci := 7) (q0 := 0) hK hPx 0 rfl rfl rfl
  have hDx := fl_D hD 1 rfl
  refine g_calliG 1 (va_runV (As := [.int (xs (i + 1)), .int (xs (i + 2)), .int (xs (i + 3))]) (rest := [.int _]) ⟨hx, hb, hml, hown, hts⟩ (c_O_hold l D kC ms.ad cs.td cs.rn cs.pn cs.an cs.jn cs.tn ms.bm ms.fw ms.gp ms.ga ms.bp ms.fc ms.fj cs.rA cs.rC cs.ft cs.kd cs.aG cs.sR cs.sT ms.wh cs.dY cs.pd cs.cN cs.mN ms.sv ms.nd cs.wr ms.tl ms.lt ms.lT cs.lD ms.gv ms.gn ms.od ms.br (xs (i + 1)) (xs (i + 2)) (xs (i + 3)) H1.size R.hpn R.han R.hsT R.hdY R.htd) (cwV 3 hts g_law_O_hold rfl rfl rfl (by decide +kernel) ⟨Nat.le_of_ble_eq_true rfl, Nat.le_of_ble_eq_true rfl⟩) (g_preV hrx hK hPx hDx) rfl rfl hl.1 rfl (lv_room (Nat.le_of_ble_eq_true rfl)) d_law_551 ⟨rmC h3 0 0 (by decide), rmS h17 0 0 (by decide)⟩) hS hA hP hD rfl (fun H2 locs hP hD hS => ?_)
  refine lv_icmp_eq (tgt := 1053) hx hb d_law_554 (by decide) (fun _ => ?_) (fun z9 => absurd (bI_congr (st_hold_iff R (xs (i + 1)) (xs (i + 2)) (xs (i + 3))).symm) z9)
  refine W.widen (k := cc + 3) (n := sc + 17) (by omega) (by omega) ?_
  have e1 := ite_iff (st_hold_iff R (xs (i + 1)) (xs (i + 2)) (xs (i + 3))) (updN cs.sT (nOf (xs (i + 1))) 1) cs.sT
  have e2 := ite_iff (st_hold_iff R (xs (i + 1)) (xs (i + 2)) (xs (i + 3))) (updN cs.dY (nOf (xs (i + 1))) (nOf (xs (i + 3)))) cs.dY
  rw [e1, e2] at hP hD
  refine kk _ _ H2 locs (st_hold R (xs (i + 1)) (xs (i + 2)) (xs (i + 3))) (by rw [mkCS_ad]) (by rw [mkMS_ad]) ?_ ?_ hS
  · rw [lawW_cm]; exact hP
  · rw [lawW_cm]; exact hD
