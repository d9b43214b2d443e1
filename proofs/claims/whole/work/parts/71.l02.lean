set_option maxHeartbeats 4000000 in
set_option maxRecDepth 100000 in
/-- row -/
theorem law_row {p : Program} {l : Launch} {e : Env} {s : State} {m : MethodId} {below : List Frame} {meth : Method} {c : Code} {b L : Nat} {xs : Nat → Int32} {D : va_G} {kC : Nat → ClassId} {eD i cc sc : Nat} {cs : CS} {ms : MS} {H : Heap} {locs : List Loc} {ls : Array Slot} (h : LwH p s m meth c b L xs D kC eD i cc sc cs ms H locs ls) (kk : lwK p l e s m below meth c b D kC eD cc sc cs ms ls) : W p l e room_1 s m #[Value.ref b] below meth c H locs cc sc (lw_Z below #[Value.ref b] s) (F0 m 171 ls []) := by
  obtain ⟨⟨hx, hb, hr, hml, hown, hts, hX0, hbl, hlocks, hgv⟩, hK, hz, hL, hi, h3, h17, R, hP, hD, hS, hl⟩ := h
  have hX := hX0
  have hA : ∀ q : Nat, s.heap.size ≤ q → (fun q : Nat => s.heap.size ≤ q) q := fun _ h => h
  have hbA : ¬ (fun q : Nat => s.heap.size ≤ q) b := Nat.not_le.mpr hbl
  have hzw : zW s := hz.2.2
  refine lv_aload_n hx hb d_law_171 rfl (lv_at hl 1 rfl) ?_
  refine lv_aload_n hx hb d_law_172 rfl (lv_at hl 0 rfl) ?_
  refine lv_iload_n hx hb d_law_173 rfl (lv_at hl 3 rfl) ?_
  refine lv_iconst (v := nI 1) hx hb d_law_174 (by decide) ?_
  refine nv_iadd hx hb d_law_175 ?_
  refine va_sld hx hb hX hbl hbA hS (vp_in_nI (by omega) (by omega)) d_law_176 ?_
  refine nv_topi (y := xs (i + 1)) (congrArg xs (nI_clamp (by omega))) ?_
  refine lv_aload_n hx hb d_law_177 rfl (lv_at hl 0 rfl) ?_
  refine lv_iload_n hx hb d_law_178 rfl (lv_at hl 3 rfl) ?_
  refine lv_iconst (v := nI 2) hx hb d_law_179 (by decide) ?_
  refine nv_iadd hx hb d_law_180 ?_
  refine va_sld hx hb hX hbl hbA hS (vp_in_nI (by omega) (by omega)) d_law_181 ?_
  refine nv_topi (y := xs (i + 2)) (congrArg xs (nI_clamp (by omega))) ?_
  refine lv_i2l hx hb d_law_182 rfl ?_
  refine lv_bipush (v := nI 32) hx hb d_law_183 (by decide) ?_
  refine lv_lshl hx hb d_law_185 rfl ?_
  refine lv_aload_n hx hb d_law_186 rfl (lv_at hl 0 rfl) ?_
  refine lv_iload_n hx hb d_law_187 rfl (lv_at hl 3 rfl) ?_
  refine lv_iconst (v := nI 3) hx hb d_law_188 (by decide) ?_
  refine nv_iadd hx hb d_law_189 ?_
  refine va_sld hx hb hX hbl hbA hS (vp_in_nI (by omega) (by omega)) d_law_190 ?_
  refine nv_topi (y := xs (i + 3)) (congrArg xs (nI_clamp (by omega))) ?_
  refine lv_i2l hx hb d_law_191 rfl ?_
  refine lv_ldc2 hx hb hown (hts (.constantLong "PartShelvesLaw" 18 4294967295) (by decide +kernel)) d_law_192 ?_
  refine lv_land hx hb d_law_195 ?_
  refine lv_lor hx hb d_law_196 ?_
  refine nv_topl (y := scL xs (i + 2)) rfl ?_
  have hPx : va_P D cls (fl (cL kC eD cs)) H := fl_P hP 0 rfl
  have hrx := f_recv (ci := 0) (q0 := 0) hK hPx 0 rfl rfl rfl
  have hDx := fl_D hD 0 rfl
  refine g_calliG 0 (va_runV (As := [.int (xs (i + 1)), .long (scL xs (i + 2))]) (rest := []) ⟨hx, hb, hml, hown, hts⟩ (c_P_row l D kC cs.ad cs.qR cs.lp cs.la cs.lj cs.qM cs.qN cs.ft cs.wr cs.tl cs.tn cs.bo cs.lD cs.td cs.rA cs.rC cs.rn eD cs.mdp cs.xp cs.pn cs.pa cs.kd cs.aG cs.sR cs.sT cs.dY cs.pho cs.ppe cs.mda cs.xa cs.an cs.aa cs.anu cs.pd cs.cN cs.mN cs.aop cs.rr cs.fc cs.ntot cs.ch cs.fp cs.mdj cs.xj cs.jn cs.ja cs.jx cs.jne cs.sh cs.be cs.ob cs.os cs.oc cs.ar cs.gi cs.pg cs.ag cs.mp cs.ma cs.prn cs.mtot (xs (i + 1)) (scL xs (i + 2)) H.size R.hrn R.hrA) (cwV 2 hts g_law_P_row rfl rfl rfl (by decide +kernel) ⟨Nat.le_of_ble_eq_true rfl, Nat.le_of_ble_eq_true rfl⟩) (g_preV hrx hK hPx hDx) rfl rfl hl.1 rfl (lv_room (Nat.le_of_ble_eq_true rfl)) d_law_197 ⟨rmC h3 0 0 (by decide), rmS h17 0 0 (by decide)⟩) hS hA hP hD rfl (fun H1 locs hP hD hS => ?_)
  refine lv_aload_n hx hb d_law_200 rfl (lv_at hl 2 rfl) ?_
  refine lv_aload_n hx hb d_law_201 rfl (lv_at hl 0 rfl) ?_
  refine lv_iload_n hx hb d_law_202 rfl (lv_at hl 3 rfl) ?_
  refine lv_iconst (v := nI 1) hx hb d_law_203 (by decide) ?_
  refine nv_iadd hx hb d_law_204 ?_
  refine va_sld hx hb hX hbl hbA hS (vp_in_nI (by omega) (by omega)) d_law_205 ?_
  refine nv_topi (y := xs (i + 1)) (congrArg xs (nI_clamp (by omega))) ?_
  refine lv_aload_n hx hb d_law_206 rfl (lv_at hl 0 rfl) ?_
  refine lv_iload_n hx hb d_law_207 rfl (lv_at hl 3 rfl) ?_
  refine lv_iconst (v := nI 2) hx hb d_law_208 (by decide) ?_
  refine nv_iadd hx hb d_law_209 ?_
  refine va_sld hx hb hX hbl hbA hS (vp_in_nI (by omega) (by omega)) d_law_210 ?_
  refine nv_topi (y := xs (i + 2)) (congrArg xs (nI_clamp (by omega))) ?_
  refine lv_i2l hx hb d_law_211 rfl ?_
  refine lv_bipush (v := nI 32) hx hb d_law_212 (by decide) ?_
  refine lv_lshl hx hb d_law_214 rfl ?_
  refine lv_aload_n hx hb d_law_215 rfl (lv_at hl 0 rfl) ?_
  refine lv_iload_n hx hb d_law_216 rfl (lv_at hl 3 rfl) ?_
  refine lv_iconst (v := nI 3) hx hb d_law_217 (by decide) ?_
  refine nv_iadd hx hb d_law_218 ?_
  refine va_sld hx hb hX hbl hbA hS (vp_in_nI (by omega) (by omega)) d_law_219 ?_
  refine nv_topi (y := xs (i + 3)) (congrArg xs (nI_clamp (by omega))) ?_
  refine lv_i2l hx hb d_law_220 rfl ?_
  refine lv_ldc2 hx hb hown (hts (.constantLong "PartShelvesLaw" 18 4294967295) (by decide +kernel)) d_law_221 ?_
  refine lv_land hx hb d_law_224 ?_
  refine lv_lor hx hb d_law_225 ?_
  refine nv_topl (y := scL xs (i + 2)) rfl ?_
  have hPx : va_P D cls (fl (mL kC cs ms)) H1 := fl_P hP 1 rfl
  have hrx := f_recv (ci := 7) (q0 := 0) hK hPx 0 rfl rfl rfl
  have hDx := fl_D hD 1 rfl
  refine g_calliG 1 (va_runV (As := [.int (xs (i + 1)), .long (scL xs (i + 2))]) (rest := [.int _]) ⟨hx, hb, hml, hown, hts⟩ (c_O_row l D kC ms.ad cs.td cs.rn cs.pn cs.an cs.jn cs.tn ms.bm ms.fw ms.gp ms.ga ms.bp ms.fc ms.fj cs.rA cs.rC cs.ft cs.kd cs.aG cs.sR cs.sT ms.wh cs.dY cs.pd cs.cN cs.mN ms.sv ms.nd cs.wr ms.tl ms.lt ms.lT cs.lD ms.gv ms.gn ms.od ms.br (xs (i + 1)) (scL xs (i + 2)) H1.size R.hrn R.hrA) (cwV 2 hts g_law_O_row rfl rfl rfl (by decide +kernel) ⟨Nat.le_of_ble_eq_true rfl, Nat.le_of_ble_eq_true rfl⟩) (g_preV hrx hK hPx hDx) rfl rfl hl.1 rfl (lv_room (Nat.le_of_ble_eq_true rfl)) d_law_226 ⟨rmC h3 0 0 (by decide), rmS h17 0 0 (by decide)⟩) hS hA hP hD rfl (fun H2 locs hP hD hS => ?_)
  refine lv_icmp_eq (tgt := 1053) hx hb d_law_229 (by decide) (fun _ => ?_) (fun z9 => absurd (rfl) z9)
  refine W.widen (k := cc + 3) (n := sc + 17) (by omega) (by omega) ?_
  refine kk _ ms H2 locs (st_row R (xs (i + 1)) (scL xs (i + 2))) (by rw [mkCS_ad]) rfl ?_ ?_ hS
  · rw [lawW_c]; exact hP
  · rw [lawW_c]; exact hD
set_option maxHeartbeats 4000000 in
set_option maxRecDepth 100000 in
/-- fits -/
theorem law_fits {p : Program} {l : Launch} {e : Env} {s : State} {m : MethodId} {below : List Frame} {meth : Method} {c : Code} {b L : Nat} {xs : Nat → Int32} {D : va_G} {kC : Nat → ClassId} {eD i cc sc : Nat} {cs : CS} {ms : MS} {H : Heap} {locs : List Loc} {ls : Array Slot} (h : LwH p s m meth c b L xs D kC eD i cc sc cs ms H locs ls) (kk : lwK p l e s m below meth c b D kC eD cc sc cs ms ls) : W p l e room_1 s m #[Value.ref b] below meth c H locs cc sc (lw_Z below #[Value.ref b] s) (F0 m 234 ls []) := by
  obtain ⟨⟨hx, hb, hr, hml, hown, hts, hX0, hbl, hlocks, hgv⟩, hK, hz, hL, hi, h3, h17, R, hP, hD, hS, hl⟩ := h
  have hX := hX0
  have hA : ∀ q : Nat, s.heap.size ≤ q → (fun q : Nat => s.heap.size ≤ q) q := fun _ h => h
  have hbA : ¬ (fun q : Nat => s.heap.size ≤ q) b := Nat.not_le.mpr hbl
  have hzw : zW s := hz.2.2
  by_cases hb3 : xs (i + 3) = 0
  · refine lv_aload_n hx hb d_law_234 rfl (lv_at hl 1 rfl) ?_
    refine lv_aload_n hx hb d_law_235 rfl (lv_at hl 0 rfl) ?_
    refine lv_iload_n hx hb d_law_236 rfl (lv_at hl 3 rfl) ?_
    refine lv_iconst (v := nI 1) hx hb d_law_237 (by decide) ?_
    refine nv_iadd hx hb d_law_238 ?_
    refine va_sld hx hb hX hbl hbA hS (vp_in_nI (by omega) (by omega)) d_law_239 ?_
    refine nv_topi (y := xs (i + 1)) (congrArg xs (nI_clamp (by omega))) ?_
    refine lv_aload_n hx hb d_law_240 rfl (lv_at hl 0 rfl) ?_
    refine lv_iload_n hx hb d_law_241 rfl (lv_at hl 3 rfl) ?_
    refine lv_iconst (v := nI 2) hx hb d_law_242 (by decide) ?_
    refine nv_iadd hx hb d_law_243 ?_
    refine va_sld hx hb hX hbl hbA hS (vp_in_nI (by omega) (by omega)) d_law_244 ?_
    refine nv_topi (y := xs (i + 2)) (congrArg xs (nI_clamp (by omega))) ?_
    refine lv_aload_n hx hb d_law_245 rfl (lv_at hl 0 rfl) ?_
    refine lv_iload_n hx hb d_law_246 rfl (lv_at hl 3 rfl) ?_
    refine lv_iconst (v := nI 3) hx hb d_law_247 (by decide) ?_
    refine nv_iadd hx hb d_law_248 ?_
    refine va_sld hx hb hX hbl hbA hS (vp_in_nI (by omega) (by omega)) d_law_249 ?_
    refine nv_topi (y := xs (i + 3)) (congrArg xs (nI_clamp (by omega))) ?_
    refine lv_if_eq (tgt := 257) hx hb d_law_250 (by decide) (fun _ => ?_) (fun z => absurd hb3 z)
    refine lv_iconst (v := nI 0) hx hb d_law_257 (by decide) ?_
    have hPx : va_P D cls (fl (cL kC eD cs)) H := fl_P hP 0 rfl
    have hrx := f_recv (ci := 0) (q0 := 0) hK hPx 0 rfl rfl rfl
    have hDx := fl_D hD 0 rfl
    refine g_calliG 0 (va_runV (As := [.int (xs (i + 1)), .int (xs (i + 2)), .int (nI 0)]) (rest := []) ⟨hx, hb, hml, hown, hts⟩ (c_P_fits l D kC cs.ad cs.qR cs.lp cs.la cs.lj cs.qM cs.qN cs.ft cs.wr cs.tl cs.tn cs.bo cs.lD cs.td cs.rA cs.rC cs.rn eD cs.mdp cs.xp cs.pn cs.pa cs.kd cs.aG cs.sR cs.sT cs.dY cs.pho cs.ppe cs.mda cs.xa cs.an cs.aa cs.anu cs.pd cs.cN cs.mN cs.aop cs.rr cs.fc cs.ntot cs.ch cs.fp cs.mdj cs.xj cs.jn cs.ja cs.jx cs.jne cs.sh cs.be cs.ob cs.os cs.oc cs.ar cs.gi cs.pg cs.ag cs.mp cs.ma cs.prn cs.mtot (xs (i + 1)) (xs (i + 2)) (nI 0) H.size (Or.inl nI_0)) (cwV 3 hts g_law_P_fits rfl rfl rfl (by decide +kernel) ⟨Nat.le_of_ble_eq_true rfl, Nat.le_of_ble_eq_true rfl⟩) (g_preV hrx hK hPx hDx) rfl rfl hl.1 rfl (lv_room (Nat.le_of_ble_eq_true rfl)) d_law_258 ⟨rmC h3 0 0 (by decide), rmS h17 0 0 (by decide)⟩) hS hA hP hD rfl (fun H1 locs hP hD hS => ?_)
    refine lv_aload_n hx hb d_law_261 rfl (lv_at hl 2 rfl) ?_
    refine lv_aload_n hx hb d_law_262 rfl (lv_at hl 0 rfl) ?_
    refine lv_iload_n hx hb d_law_263 rfl (lv_at hl 3 rfl) ?_
    refine lv_iconst (v := nI 1) hx hb d_law_264 (by decide) ?_
    refine nv_iadd hx hb d_law_265 ?_
    refine va_sld hx hb hX hbl hbA hS (vp_in_nI (by omega) (by omega)) d_law_266 ?_
    refine nv_topi (y := xs (i + 1)) (congrArg xs (nI_clamp (by omega))) ?_
    refine lv_aload_n hx hb d_law_267 rfl (lv_at hl 0 rfl) ?_
    refine lv_iload_n hx hb d_law_268 rfl (lv_at hl 3 rfl) ?_
    refine lv_iconst (v := nI 2) hx hb d_law_269 (by decide) ?_
    refine nv_iadd hx hb d_law_270 ?_
    refine va_sld hx hb hX hbl hbA hS (vp_in_nI (by omega) (by omega)) d_law_271 ?_
    refine nv_topi (y := xs (i + 2)) (congrArg xs (nI_clamp (by omega))) ?_
    refine lv_aload_n hx hb d_law_272 rfl (lv_at hl 0 rfl) ?_
    refine lv_iload_n hx hb d_law_273 rfl (lv_at hl 3 rfl) ?_
    refine lv_iconst (v := nI 3) hx hb d_law_274 (by decide) ?_
    refine nv_iadd hx hb d_law_275 ?_
    refine va_sld hx hb hX hbl hbA hS (vp_in_nI (by omega) (by omega)) d_law_276 ?_
    refine nv_topi (y := xs (i + 3)) (congrArg xs (nI_clamp (by omega))) ?_
    refine lv_if_eq (tgt := 284) hx hb d_law_277 (by decide) (fun _ => ?_) (fun z => absurd hb3 z)
    refine lv_iconst (v := nI 0) hx hb d_law_284 (by decide) ?_
    have hPx : va_P D cls (fl (mL kC cs ms)) H1 := fl_P hP 1 rfl
    have hrx := f_recv (ci := 7) (q0 := 0) hK hPx 0 rfl rfl rfl
    have hDx := fl_D hD 1 rfl
    refine g_calliG 1 (va_runV (As := [.int (xs (i + 1)), .int (xs (i + 2)), .int (nI 0)]) (rest := [.int _]) ⟨hx, hb, hml, hown, hts⟩ (c_O_fits l D kC ms.ad cs.td cs.rn cs.pn cs.an cs.jn cs.tn ms.bm ms.fw ms.gp ms.ga ms.bp ms.fc ms.fj cs.rA cs.rC cs.ft cs.kd cs.aG cs.sR cs.sT ms.wh cs.dY cs.pd cs.cN cs.mN ms.sv ms.nd cs.wr ms.tl ms.lt ms.lT cs.lD ms.gv ms.gn ms.od ms.br (xs (i + 1)) (xs (i + 2)) (nI 0) H1.size (Or.inl nI_0)) (cwV 3 hts g_law_O_fits rfl rfl rfl (by decide +kernel) ⟨Nat.le_of_ble_eq_true rfl, Nat.le_of_ble_eq_true rfl⟩) (g_preV hrx hK hPx hDx) rfl rfl hl.1 rfl (lv_room (Nat.le_of_ble_eq_true rfl)) d_law_285 ⟨rmC h3 0 0 (by decide), rmS h17 0 0 (by decide)⟩) hS hA hP hD rfl (fun H2 locs hP hD hS => ?_)
    refine lv_icmp_eq (tgt := 1053) hx hb d_law_288 (by decide) (fun _ => ?_) (fun z9 => absurd (rfl) z9)
    refine W.widen (k := cc + 3) (n := sc + 17) (by omega) (by omega) ?_
    refine kk _ ms H2 locs (st_fits R (xs (i + 1)) (xs (i + 2)) (nI 0)) (by rw [mkCS_ad]) rfl ?_ ?_ hS
    · rw [lawW_c]; exact hP
    · rw [lawW_c]; exact hD
  · refine lv_aload_n hx hb d_law_234 rfl (lv_at hl 1 rfl) ?_
    refine lv_aload_n hx hb d_law_235 rfl (lv_at hl 0 rfl) ?_
    refine lv_iload_n hx hb d_law_236 rfl (lv_at hl 3 rfl) ?_
    refine lv_iconst (v := nI 1) hx hb d_law_237 (by decide) ?_
    refine nv_iadd hx hb d_law_238 ?_
    refine va_sld hx hb hX hbl hbA hS (vp_in_nI (by omega) (by omega)) d_law_239 ?_
    refine nv_topi (y := xs (i + 1)) (congrArg xs (nI_clamp (by omega))) ?_
    refine lv_aload_n hx hb d_law_240 rfl (lv_at hl 0 rfl) ?_
    refine lv_iload_n hx hb d_law_241 rfl (lv_at hl 3 rfl) ?_
    refine lv_iconst (v := nI 2) hx hb d_law_242 (by decide) ?_
    refine nv_iadd hx hb d_law_243 ?_
    refine va_sld hx hb hX hbl hbA hS (vp_in_nI (by omega) (by omega)) d_law_244 ?_
    refine nv_topi (y := xs (i + 2)) (congrArg xs (nI_clamp (by omega))) ?_
    refine lv_aload_n hx hb d_law_245 rfl (lv_at hl 0 rfl) ?_
    refine lv_iload_n hx hb d_law_246 rfl (lv_at hl 3 rfl) ?_
    refine lv_iconst (v := nI 3) hx hb d_law_247 (by decide) ?_
    refine nv_iadd hx hb d_law_248 ?_
    refine va_sld hx hb hX hbl hbA hS (vp_in_nI (by omega) (by omega)) d_law_249 ?_
    refine nv_topi (y := xs (i + 3)) (congrArg xs (nI_clamp (by omega))) ?_
    refine lv_if_eq (tgt := 257) hx hb d_law_250 (by decide) (fun z => absurd z hb3) (fun _ => ?_)
    refine lv_iconst (v := nI 1) hx hb d_law_253 (by decide) ?_
    refine lv_goto (tgt := 258) hx hb d_law_254 (by decide) ?_
    have hPx : va_P D cls (fl (cL kC eD cs)) H := fl_P hP 0 rfl
    have hrx := f_recv (ci := 0) (q0 := 0) hK hPx 0 rfl rfl rfl
    have hDx := fl_D hD 0 rfl
    refine g_calliG 0 (va_runV (As := [.int (xs (i + 1)), .int (xs (i + 2)), .int (nI 1)]) (rest := []) ⟨hx, hb, hml, hown, hts⟩ (c_P_fits l D kC cs.ad cs.qR cs.lp cs.la cs.lj cs.qM cs.qN cs.ft cs.wr cs.tl cs.tn cs.bo cs.lD cs.td cs.rA cs.rC cs.rn eD cs.mdp cs.xp cs.pn cs.pa cs.kd cs.aG cs.sR cs.sT cs.dY cs.pho cs.ppe cs.mda cs.xa cs.an cs.aa cs.anu cs.pd cs.cN cs.mN cs.aop cs.rr cs.fc cs.ntot cs.ch cs.fp cs.mdj cs.xj cs.jn cs.ja cs.jx cs.jne cs.sh cs.be cs.ob cs.os cs.oc cs.ar cs.gi cs.pg cs.ag cs.mp cs.ma cs.prn cs.mtot (xs (i + 1)) (xs (i + 2)) (nI 1) H.size (Or.inr nI_1e)) (cwV 3 hts g_law_P_fits rfl rfl rfl (by decide +kernel) ⟨Nat.le_of_ble_eq_true rfl, Nat.le_of_ble_eq_true rfl⟩) (g_preV hrx hK hPx hDx) rfl rfl hl.1 rfl (lv_room (Nat.le_of_ble_eq_true rfl)) d_law_258 ⟨rmC h3 0 0 (by decide), rmS h17 0 0 (by decide)⟩) hS hA hP hD rfl (fun H1 locs hP hD hS => ?_)
    refine lv_aload_n hx hb d_law_261 rfl (lv_at hl 2 rfl) ?_
    refine lv_aload_n hx hb d_law_262 rfl (lv_at hl 0 rfl) ?_
    refine lv_iload_n hx hb d_law_263 rfl (lv_at hl 3 rfl) ?_
    refine lv_iconst (v := nI 1) hx hb d_law_264 (by decide) ?_
    refine nv_iadd hx hb d_law_265 ?_
    refine va_sld hx hb hX hbl hbA hS (vp_in_nI (by omega) (by omega)) d_law_266 ?_
    refine nv_topi (y := xs (i + 1)) (congrArg xs (nI_clamp (by omega))) ?_
    refine lv_aload_n hx hb d_law_267 rfl (lv_at hl 0 rfl) ?_
    refine lv_iload_n hx hb d_law_268 rfl (lv_at hl 3 rfl) ?_
    refine lv_iconst (v := nI 2) hx hb d_law_269 (by decide) ?_
    refine nv_iadd hx hb d_law_270 ?_
    refine va_sld hx hb hX hbl hbA hS (vp_in_nI (by omega) (by omega)) d_law_271 ?_
    refine nv_topi (y := xs (i + 2)) (congrArg xs (nI_clamp (by omega))) ?_
    refine lv_aload_n hx hb d_law_272 rfl (lv_at hl 0 rfl) ?_
    refine lv_iload_n hx hb d_law_273 rfl (lv_at hl 3 rfl) ?_
    refine lv_iconst (v := nI 3) hx hb d_law_274 (by decide) ?_
    refine nv_iadd hx hb d_law_275 ?_
    refine va_sld hx hb hX hbl hbA hS (vp_in_nI (by omega) (by omega)) d_law_276 ?_
    refine nv_topi (y := xs (i + 3)) (congrArg xs (nI_clamp (by omega))) ?_
    refine lv_if_eq (tgt := 284) hx hb d_law_277 (by decide) (fun z => absurd z hb3) (fun _ => ?_)
    refine lv_iconst (v := nI 1) hx hb d_law_280 (by decide) ?_
    refine lv_goto (tgt := 285) hx hb d_law_281 (by decide) ?_
    have hPx : va_P D cls (fl (mL kC cs ms)) H1 := fl_P hP 1 rfl
    have hrx := f_recv (ci := 7) (q0 := 0) hK hPx 0 rfl rfl rfl
    have hDx := fl_D hD 1 rfl
    refine g_calliG 1 (va_runV (As := [.int (xs (i + 1)), .int (xs (i + 2)), .int (nI 1)]) (rest := [.int _]) ⟨hx, hb, hml, hown, hts⟩ (c_O_fits l D kC ms.ad cs.td cs.rn cs.pn cs.an cs.jn cs.tn ms.bm ms.fw ms.gp ms.ga ms.bp ms.fc ms.fj cs.rA cs.rC cs.ft cs.kd cs.aG cs.sR cs.sT ms.wh cs.dY cs.pd cs.cN cs.mN ms.sv ms.nd cs.wr ms.tl ms.lt ms.lT cs.lD ms.gv ms.gn ms.od ms.br (xs (i + 1)) (xs (i + 2)) (nI 1) H1.size (Or.inr nI_1e)) (cwV 3 hts g_law_O_fits rfl rfl rfl (by decide +kernel) ⟨Nat.le_of_ble_eq_true rfl, Nat.le_of_ble_eq_true rfl⟩) (g_preV hrx hK hPx hDx) rfl rfl hl.1 rfl (lv_room (Nat.le_of_ble_eq_true rfl)) d_law_285 ⟨rmC h3 0 0 (by decide), rmS h17 0 0 (by decide)⟩) hS hA hP hD rfl (fun H2 locs hP hD hS => ?_)
    refine lv_icmp_eq (tgt := 1053) hx hb d_law_288 (by decide) (fun _ => ?_) (fun z9 => absurd (rfl) z9)
    refine W.widen (k := cc + 3) (n := sc + 17) (by omega) (by omega) ?_
    refine kk _ ms H2 locs (st_fits R (xs (i + 1)) (xs (i + 2)) (nI 1)) (by rw [mkCS_ad]) rfl ?_ ?_ hS
    · rw [lawW_c]; exact hP
    · rw [lawW_c]; exact hD
