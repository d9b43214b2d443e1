abbrev b_O_price : ByteArray := prog_9_method_13_code
def y_O_price : MethodName := ⟨"PartShelvesModel", "price", "(I)J"⟩
theorem d_O_price_0 : decode b_O_price 0 = .ok (.aload_n 0, 1) := by decide +kernel
theorem d_O_price_1 : decode b_O_price 1 = .ok (.iload_n 1, 1) := by decide +kernel
theorem d_O_price_2 : decode b_O_price 2 = .ok (.invokevirtual 108, 3) := by decide +kernel
theorem d_O_price_5 : decode b_O_price 5 = .ok (.ifCond .eq 11, 3) := by decide +kernel
theorem d_O_price_8 : decode b_O_price 8 = .ok (.aload_n 0, 1) := by decide +kernel
theorem d_O_price_9 : decode b_O_price 9 = .ok (.iload_n 1, 1) := by decide +kernel
theorem d_O_price_10 : decode b_O_price 10 = .ok (.invokevirtual 111, 3) := by decide +kernel
theorem d_O_price_13 : decode b_O_price 13 = .ok (.goto 6, 3) := by decide +kernel
theorem d_O_price_16 : decode b_O_price 16 = .ok (.ldc2_w 115, 3) := by decide +kernel
theorem d_O_price_19 : decode b_O_price 19 = .ok (.lreturn, 1) := by decide +kernel
def w_O_price : List Cond := .code y_O_price b_O_price 2 (some .long) :: ([.methodLink "PartShelvesModel" 108 ⟨"PartShelvesModel", "isPart", "(I)Z"⟩, .instanceMethod ⟨"PartShelvesModel", "isPart", "(I)Z"⟩, .selects "PartShelvesModel" ⟨"PartShelvesModel", "isPart", "(I)Z"⟩ ⟨"PartShelvesModel", "isPart", "(I)Z"⟩, .initialized "PartShelvesModel", .code ⟨"PartShelvesModel", "isPart", "(I)Z"⟩ prog_9_method_6_code 2 (some .boolean), .fieldLink "PartShelvesModel" 81 "PartShelvesModel" "parts" "I", .methodLink "PartShelvesModel" 111 ⟨"PartShelvesModel", "priceOf", "(I)J"⟩, .instanceMethod ⟨"PartShelvesModel", "priceOf", "(I)J"⟩, .selects "PartShelvesModel" ⟨"PartShelvesModel", "priceOf", "(I)J"⟩ ⟨"PartShelvesModel", "priceOf", "(I)J"⟩, .code ⟨"PartShelvesModel", "priceOf", "(I)J"⟩ prog_9_method_12_code 5 (some .long), .fieldLink "PartShelvesModel" 97 "PartShelvesModel" "rows" "I", .fieldLink "PartShelvesModel" 7 "PartShelvesModel" "rowAges" "[I", .fieldLink "PartShelvesModel" 24 "PartShelvesModel" "ages" "[I", .fieldLink "PartShelvesModel" 13 "PartShelvesModel" "rowCents" "[J", .constantLong "PartShelvesModel" 115 (-1)] ++ u_ws R_O F_O 36)
set_option maxRecDepth 20000 in
theorem g_O_price_isPart : GoodIn w_O_price (wsV R_O 108 R_O y_O_isPart w_O_isPart) := goodIn_p _ [5] rfl (by decide +kernel)
set_option maxRecDepth 20000 in
theorem g_O_price_priceOf : GoodIn w_O_price (wsV R_O 111 R_O y_O_priceOf w_O_priceOf) := goodIn_p _ [10] rfl (by decide +kernel)
set_option maxHeartbeats 4000000 in
set_option maxRecDepth 100000 in
theorem c_O_price (l : Launch) (D : va_G) (kC : Nat → ClassId) (ad : Nat → Nat) (td : Nat) (rn : Nat) (pn : Nat) (an : Nat) (jn : Nat) (tn : Nat) (bm : Int32) (fw : Int64) (gp : Nat) (ga : Nat) (bp : Int32) (fc : Int64) (fj : Nat) (rA : Nat → Nat) (rC : Nat → Nat) (ft : Nat → Int32) (kd : Nat → Nat) (aG : Nat → Nat) (sR : Nat → Nat) (sT : Nat → Nat) (wh : Nat → Nat) (dY : Nat → Nat) (pd : Nat → Nat) (cN : Nat → Nat) (mN : Nat → Nat) (sv : Nat → Int32) (nd : Nat → Nat) (wr : Nat → Nat) (tl : Nat → Nat) (lt : Nat → Int32) (lT : Nat → Nat) (lD : Nat → Nat) (gv : Nat → Int32) (gn : Nat → Int64) (od : Nat → Nat) (br : Nat → Nat) (x : Int32) (hpn : pn ≤ 8) (hrn : rn ≤ 6) (hrA : ∀ j, rA j ≤ 1000) (haG : ∀ j, aG j ≤ 1000) : Met l y_O_price w_O_price ({ frames := 1, cells := 0, slots := 0, locals := 25 } : Room) (gPr cls D (tyL kC) [.ref (ad 0), .int x] (fl [(wO kC ad td rn pn an jn tn bm fw gp ga bp fc fj rA rC ft kd aG sR sT wh dY pd cN mN sv nd wr tl lt lT lD gv gn od br)])) (vp_Sl (fun r => r = (if inR x pn then lN (prM rA rC (aG (nOf x)) rn) else -1))) 0 0 (fun _ => False) := by
  refine Met.ofW (cc := b_O_price) (maxL := 2) (ret := (some .long)) (by decide) rfl ?_
  intro p e s m args below meth c s₁ B hml hv
  obtain ⟨rfl, hP, hK⟩ := hv
  have hx := B.exec
  have hb := B.bytes
  have hr := B.returns
  have hts := atoms_spec (ws := w_O_price) B.pre
  have hown : s.vm.findClass R_O = some m.cls := findClass_of_methodNamed B.named
  have hlocks := B.notSynchronized
  have hl := lv_entry ([.ref (ad 0), .int x]) (n := 2) (Nat.le_of_ble_eq_true rfl)
  rw [lg_entry_eq]
  generalize (lg_sl ([.ref (ad 0), .int x]) ++ List.replicate (2 - (lg_sl ([.ref (ad 0), .int x])).length) Slot.unset).toArray = ls at hl ⊢
  have hl : lv_has ls 2 [(0, .ref (ad 0)), (1, .int x)] := hl
  refine lv_aload_n hx hb d_O_price_0 rfl (lv_at hl 0 rfl) ?_
  refine lv_iload_n hx hb d_O_price_1 rfl (lv_at hl 1 rfl) ?_
  refine r_calli (W.runV (As := [.int x]) (rest := []) ⟨hx, hb, hml, hown, hts⟩ (c_O_isPart l D kC ad td rn pn an jn tn bm fw gp ga bp fc fj rA rC ft kd aG sR sT wh dY pd cN mN sv nd wr tl lt lT lD gv gn od br x (hpn)) (cwV 1 hts g_O_price_isPart rfl rfl rfl (by decide +kernel) ⟨Nat.le_of_ble_eq_true rfl, Nat.le_of_ble_eq_true rfl⟩) (r_preV (f_recv (ci := 7) (q0 := 0) hK hP 0 rfl rfl rfl) hK hP) rfl rfl hl.1 rfl (lv_room (Nat.le_of_ble_eq_true rfl)) d_O_price_2 ⟨Nat.le_of_ble_eq_true rfl, Nat.le_of_ble_eq_true rfl⟩) ?_
  refine lv_if_eq (tgt := 16) hx hb d_O_price_5 (by decide) (fun hc => ?_) (fun hc => ?_)
  · refine lv_ldc2 (v := (-1)) hx hb hown (hts (.constantLong R_O 115 (-1)) (by decide +kernel)) d_O_price_16 ?_
    exact W.lret (v := (-1)) hx hb hr (fun t ht hW => ⟨_, rfl, (if_neg (bI_0.mp hc)).symm, ht⟩) t_nil d_O_price_19
  · obtain ⟨j, hj, rfl⟩ := inR_n (by omega) (bI_n0.mp hc)
    refine lv_aload_n hx hb d_O_price_8 rfl (lv_at hl 0 rfl) ?_
    refine lv_iload_n hx hb d_O_price_9 rfl (lv_at hl 1 rfl) ?_
    refine r_calll (W.runV (As := [.int (nI j)]) (rest := []) ⟨hx, hb, hml, hown, hts⟩ (c_O_prOf l D kC ad td rn pn an jn tn bm fw gp ga bp fc fj rA rC ft kd aG sR sT wh dY pd cN mN sv nd wr tl lt lT lD gv gn od br j (by omega) (hrn) (hrA) (haG)) (cwV 1 hts g_O_price_priceOf rfl rfl rfl (by decide +kernel) ⟨Nat.le_of_ble_eq_true rfl, Nat.le_of_ble_eq_true rfl⟩) (r_preV (f_recv (ci := 7) (q0 := 0) hK hP 0 rfl rfl rfl) hK hP) rfl rfl hl.1 rfl (lv_room (Nat.le_of_ble_eq_true rfl)) d_O_price_10 ⟨Nat.le_of_ble_eq_true rfl, Nat.le_of_ble_eq_true rfl⟩) ?_
    refine lv_goto (tgt := 19) hx hb d_O_price_13 (by decide) ?_
    exact W.lret (v := lN (prM rA rC (aG j) rn)) hx hb hr (fun t ht hW => ⟨_, rfl, by rw [if_pos ((inR_nI (by omega)).mpr hj), nOf_nI (by omega)], ht⟩) t_nil d_O_price_19

abbrev b_O_state : ByteArray := prog_9_method_15_code
def y_O_state : MethodName := ⟨"PartShelvesModel", "state", "(I)I"⟩
theorem d_O_state_0 : decode b_O_state 0 = .ok (.aload_n 0, 1) := by decide +kernel
theorem d_O_state_1 : decode b_O_state 1 = .ok (.iload_n 1, 1) := by decide +kernel
theorem d_O_state_2 : decode b_O_state 2 = .ok (.invokevirtual 108, 3) := by decide +kernel
theorem d_O_state_5 : decode b_O_state 5 = .ok (.ifCond .eq 11, 3) := by decide +kernel
theorem d_O_state_8 : decode b_O_state 8 = .ok (.aload_n 0, 1) := by decide +kernel
theorem d_O_state_9 : decode b_O_state 9 = .ok (.iload_n 1, 1) := by decide +kernel
theorem d_O_state_10 : decode b_O_state 10 = .ok (.invokevirtual 117, 3) := by decide +kernel
theorem d_O_state_13 : decode b_O_state 13 = .ok (.goto 4, 3) := by decide +kernel
theorem d_O_state_16 : decode b_O_state 16 = .ok (.iconst (-1), 1) := by decide +kernel
theorem d_O_state_17 : decode b_O_state 17 = .ok (.ireturn, 1) := by decide +kernel
def w_O_state : List Cond := .code y_O_state b_O_state 2 (some .int) :: ([.methodLink "PartShelvesModel" 108 ⟨"PartShelvesModel", "isPart", "(I)Z"⟩, .instanceMethod ⟨"PartShelvesModel", "isPart", "(I)Z"⟩, .selects "PartShelvesModel" ⟨"PartShelvesModel", "isPart", "(I)Z"⟩ ⟨"PartShelvesModel", "isPart", "(I)Z"⟩, .initialized "PartShelvesModel", .code ⟨"PartShelvesModel", "isPart", "(I)Z"⟩ prog_9_method_6_code 2 (some .boolean), .fieldLink "PartShelvesModel" 81 "PartShelvesModel" "parts" "I", .methodLink "PartShelvesModel" 117 ⟨"PartShelvesModel", "stateOf", "(I)I"⟩, .instanceMethod ⟨"PartShelvesModel", "stateOf", "(I)I"⟩, .selects "PartShelvesModel" ⟨"PartShelvesModel", "stateOf", "(I)I"⟩ ⟨"PartShelvesModel", "stateOf", "(I)I"⟩, .code ⟨"PartShelvesModel", "stateOf", "(I)I"⟩ prog_9_method_14_code 2 (some .int), .fieldLink "PartShelvesModel" 30 "PartShelvesModel" "states" "[I", .fieldLink "PartShelvesModel" 36 "PartShelvesModel" "days" "[I", .fieldLink "PartShelvesModel" 88 "PartShelvesModel" "today" "I"] ++ u_ws R_O F_O 36)
set_option maxRecDepth 20000 in
theorem g_O_state_isPart : GoodIn w_O_state (wsV R_O 108 R_O y_O_isPart w_O_isPart) := goodIn_p _ [5] rfl (by decide +kernel)
set_option maxRecDepth 20000 in
theorem g_O_state_stateOf : GoodIn w_O_state (wsV R_O 117 R_O y_O_stateOf w_O_stateOf) := goodIn_p _ [10] rfl (by decide +kernel)
set_option maxHeartbeats 4000000 in
set_option maxRecDepth 100000 in
theorem c_O_state (l : Launch) (D : va_G) (kC : Nat → ClassId) (ad : Nat → Nat) (td : Nat) (rn : Nat) (pn : Nat) (an : Nat) (jn : Nat) (tn : Nat) (bm : Int32) (fw : Int64) (gp : Nat) (ga : Nat) (bp : Int32) (fc : Int64) (fj : Nat) (rA : Nat → Nat) (rC : Nat → Nat) (ft : Nat → Int32) (kd : Nat → Nat) (aG : Nat → Nat) (sR : Nat → Nat) (sT : Nat → Nat) (wh : Nat → Nat) (dY : Nat → Nat) (pd : Nat → Nat) (cN : Nat → Nat) (mN : Nat → Nat) (sv : Nat → Int32) (nd : Nat → Nat) (wr : Nat → Nat) (tl : Nat → Nat) (lt : Nat → Int32) (lT : Nat → Nat) (lD : Nat → Nat) (gv : Nat → Int32) (gn : Nat → Int64) (od : Nat → Nat) (br : Nat → Nat) (x : Int32) (hpn : pn ≤ 8) (hsT : ∀ j, sT j ≤ 3) (hdY : ∀ j, dY j ≤ 100000) (htd : td ≤ 100000) : Met l y_O_state w_O_state ({ frames := 1, cells := 0, slots := 0, locals := 25 } : Room) (gPr cls D (tyL kC) [.ref (ad 0), .int x] (fl [(wO kC ad td rn pn an jn tn bm fw gp ga bp fc fj rA rC ft kd aG sR sT wh dY pd cN mN sv nd wr tl lt lT lD gv gn od br)])) (vp_Si (fun r => r = (if inR x pn then nI (stOn (sT (nOf x)) (dY (nOf x)) td) else -1))) 0 0 (fun _ => False) := by
  refine Met.ofW (cc := b_O_state) (maxL := 2) (ret := (some .int)) (by decide) rfl ?_
  intro p e s m args below meth c s₁ B hml hv
  obtain ⟨rfl, hP, hK⟩ := hv
  have hx := B.exec
  have hb := B.bytes
  have hr := B.returns
  have hts := atoms_spec (ws := w_O_state) B.pre
  have hown : s.vm.findClass R_O = some m.cls := findClass_of_methodNamed B.named
  have hlocks := B.notSynchronized
  have hl := lv_entry ([.ref (ad 0), .int x]) (n := 2) (Nat.le_of_ble_eq_true rfl)
  rw [lg_entry_eq]
  generalize (lg_sl ([.ref (ad 0), .int x]) ++ List.replicate (2 - (lg_sl ([.ref (ad 0), .int x])).length) Slot.unset).toArray = ls at hl ⊢
  have hl : lv_has ls 2 [(0, .ref (ad 0)), (1, .int x)] := hl
  refine lv_aload_n hx hb d_O_state_0 rfl (lv_at hl 0 rfl) ?_
  refine lv_iload_n hx hb d_O_state_1 rfl (lv_at hl 1 rfl) ?_
  refine r_calli (W.runV (As := [.int x]) (rest := []) ⟨hx, hb, hml, hown, hts⟩ (c_O_isPart l D kC ad td rn pn an jn tn bm fw gp ga bp fc fj rA rC ft kd aG sR sT wh dY pd cN mN sv nd wr tl lt lT lD gv gn od br x (hpn)) (cwV 1 hts g_O_state_isPart rfl rfl rfl (by decide +kernel) ⟨Nat.le_of_ble_eq_true rfl, Nat.le_of_ble_eq_true rfl⟩) (r_preV (f_recv (ci := 7) (q0 := 0) hK hP 0 rfl rfl rfl) hK hP) rfl rfl hl.1 rfl (lv_room (Nat.le_of_ble_eq_true rfl)) d_O_state_2 ⟨Nat.le_of_ble_eq_true rfl, Nat.le_of_ble_eq_true rfl⟩) ?_
  refine lv_if_eq (tgt := 16) hx hb d_O_state_5 (by decide) (fun hc => ?_) (fun hc => ?_)
  · refine lv_iconst (v := (-1)) hx hb d_O_state_16 (by decide) ?_
    exact W.iret (v := (-1)) hx hb hr (fun t ht hW => ⟨_, rfl, (if_neg (bI_0.mp hc)).symm, ht⟩) t_nil d_O_state_17
  · obtain ⟨j, hj, rfl⟩ := inR_n (by omega) (bI_n0.mp hc)
    refine lv_aload_n hx hb d_O_state_8 rfl (lv_at hl 0 rfl) ?_
    refine lv_iload_n hx hb d_O_state_9 rfl (lv_at hl 1 rfl) ?_
    refine r_calli (W.runV (As := [.int (nI j)]) (rest := []) ⟨hx, hb, hml, hown, hts⟩ (c_O_stOf l D kC ad td rn pn an jn tn bm fw gp ga bp fc fj rA rC ft kd aG sR sT wh dY pd cN mN sv nd wr tl lt lT lD gv gn od br j (by omega) (hsT) (hdY) (htd)) (cwV 1 hts g_O_state_stateOf rfl rfl rfl (by decide +kernel) ⟨Nat.le_of_ble_eq_true rfl, Nat.le_of_ble_eq_true rfl⟩) (r_preV (f_recv (ci := 7) (q0 := 0) hK hP 0 rfl rfl rfl) hK hP) rfl rfl hl.1 rfl (lv_room (Nat.le_of_ble_eq_true rfl)) d_O_state_10 ⟨Nat.le_of_ble_eq_true rfl, Nat.le_of_ble_eq_true rfl⟩) ?_
    refine lv_goto (tgt := 17) hx hb d_O_state_13 (by decide) ?_
    exact W.iret (v := nI (stOn (sT j) (dY j) td)) hx hb hr (fun t ht hW => ⟨_, rfl, by rw [if_pos ((inR_nI (by omega)).mpr hj), nOf_nI (by omega)], ht⟩) t_nil d_O_state_17

abbrev b_O_today : ByteArray := prog_9_method_8_code
def y_O_today : MethodName := ⟨"PartShelvesModel", "today", "(I)Z"⟩
theorem d_O_today_0 : decode b_O_today 0 = .ok (.iload_n 1, 1) := by decide +kernel
theorem d_O_today_1 : decode b_O_today 1 = .ok (.i2l, 1) := by decide +kernel
theorem d_O_today_2 : decode b_O_today 2 = .ok (.aload_n 0, 1) := by decide +kernel
theorem d_O_today_3 : decode b_O_today 3 = .ok (.getfield 88, 3) := by decide +kernel
theorem d_O_today_6 : decode b_O_today 6 = .ok (.i2l, 1) := by decide +kernel
theorem d_O_today_7 : decode b_O_today 7 = .ok (.ldc2_w 91, 3) := by decide +kernel
theorem d_O_today_10 : decode b_O_today 10 = .ok (.invokestatic 93, 3) := by decide +kernel
theorem d_O_today_13 : decode b_O_today 13 = .ok (.ifCond .ne 5, 3) := by decide +kernel
theorem d_O_today_16 : decode b_O_today 16 = .ok (.iconst 0, 1) := by decide +kernel
theorem d_O_today_17 : decode b_O_today 17 = .ok (.ireturn, 1) := by decide +kernel
theorem d_O_today_18 : decode b_O_today 18 = .ok (.aload_n 0, 1) := by decide +kernel
theorem d_O_today_19 : decode b_O_today 19 = .ok (.iload_n 1, 1) := by decide +kernel
theorem d_O_today_20 : decode b_O_today 20 = .ok (.putfield 88, 3) := by decide +kernel
theorem d_O_today_23 : decode b_O_today 23 = .ok (.iconst 1, 1) := by decide +kernel
theorem d_O_today_24 : decode b_O_today 24 = .ok (.ireturn, 1) := by decide +kernel
def w_O_today : List Cond := .code y_O_today b_O_today 2 (some .boolean) :: ([.fieldLink "PartShelvesModel" 88 "PartShelvesModel" "today" "I", .constantLong "PartShelvesModel" 91 100000, .methodLink "PartShelvesModel" 93 ⟨"PartShelvesModel", "isIn", "(JJJ)Z"⟩, .static ⟨"PartShelvesModel", "isIn", "(JJJ)Z"⟩, .initialized "PartShelvesModel", .code ⟨"PartShelvesModel", "isIn", "(JJJ)Z"⟩ prog_9_method_3_code 6 (some .boolean)] ++ u_ws R_O F_O 36)
set_option maxRecDepth 20000 in
theorem g_O_today_isIn : GoodIn w_O_today (wsS R_O 93 y_O_isIn w_O_isIn) := goodIn_p _ [6] rfl (by decide +kernel)
set_option maxHeartbeats 4000000 in
set_option maxRecDepth 100000 in
theorem c_O_today (l : Launch) (D : va_G) (kC : Nat → ClassId) (ad : Nat → Nat) (td : Nat) (rn : Nat) (pn : Nat) (an : Nat) (jn : Nat) (tn : Nat) (bm : Int32) (fw : Int64) (gp : Nat) (ga : Nat) (bp : Int32) (fc : Int64) (fj : Nat) (rA : Nat → Nat) (rC : Nat → Nat) (ft : Nat → Int32) (kd : Nat → Nat) (aG : Nat → Nat) (sR : Nat → Nat) (sT : Nat → Nat) (wh : Nat → Nat) (dY : Nat → Nat) (pd : Nat → Nat) (cN : Nat → Nat) (mN : Nat → Nat) (sv : Nat → Int32) (nd : Nat → Nat) (wr : Nat → Nat) (tl : Nat → Nat) (lt : Nat → Int32) (lT : Nat → Nat) (lD : Nat → Nat) (gv : Nat → Int32) (gn : Nat → Int64) (od : Nat → Nat) (br : Nat → Nat) (x : Int32) (sz : Nat) (htd : td ≤ 100000) : Met l y_O_today w_O_today ({ frames := 1, cells := 0, slots := 0, locals := 25 } : Room) (gPre cls D (tyL kC) [.ref (ad 0), .int x] (fl [(wO kC ad td rn pn an jn tn bm fw gp ga bp fc fj rA rC ft kd aG sR sT wh dY pd cN mN sv nd wr tl lt lT lD gv gn od br)]) sz) (gQi cls D (tyL kC) (fl [(wO kC ad td rn pn an jn tn bm fw gp ga bp fc fj rA rC ft kd aG sR sT wh dY pd cN mN sv nd wr tl lt lT lD gv gn od br)]) sz (bI (inI td 100000 x)) (fl [(wO kC ad (if inI td 100000 x then nOf x else td) rn pn an jn tn bm fw gp ga bp fc fj rA rC ft kd aG sR sT wh dY pd cN mN sv nd wr tl lt lT lD gv gn od br)])) 0 0 (va_A (fl [(wO kC ad td rn pn an jn tn bm fw gp ga bp fc fj rA rC ft kd aG sR sT wh dY pd cN mN sv nd wr tl lt lT lD gv gn od br)]) sz) := by
  refine Met.ofW (cc := b_O_today) (maxL := 2) (ret := (some .boolean)) (by decide) rfl ?_
  intro p e s m args below meth c s₁ B hml hv
  obtain ⟨rfl, hsz, hP, hK, hD0⟩ := hv
  have hx := B.exec
  have hb := B.bytes
  have hr := B.returns
  have hts := atoms_spec (ws := w_O_today) B.pre
  have hown : s.vm.findClass R_O = some m.cls := findClass_of_methodNamed B.named
  have hlocks := B.notSynchronized
  subst hsz
  obtain ⟨A, hAe⟩ : ∃ A : Nat → Prop, A = va_A (fl [(wO kC ad td rn pn an jn tn bm fw gp ga bp fc fj rA rC ft kd aG sR sT wh dY pd cN mN sv nd wr tl lt lT lD gv gn od br)]) s.heap.size := ⟨_, rfl⟩
  have hD : va_D A (fl [(wO kC ad td rn pn an jn tn bm fw gp ga bp fc fj rA rC ft kd aG sR sT wh dY pd cN mN sv nd wr tl lt lT lD gv gn od br)]) := by rw [hAe]; exact hD0.self
  have hA : ∀ q : Nat, s.heap.size ≤ q → A q := fun q h => by rw [hAe]; exact Or.inr h
  have hS : va_S A s.heap s.heap [] := va_S.rf
  have hl := lv_entry ([.ref (ad 0), .int x]) (n := 2) (Nat.le_of_ble_eq_true rfl)
  rw [lg_entry_eq]
  generalize (lg_sl ([.ref (ad 0), .int x]) ++ List.replicate (2 - (lg_sl ([.ref (ad 0), .int x])).length) Slot.unset).toArray = ls at hl ⊢
  have hl : lv_has ls 2 [(0, .ref (ad 0)), (1, .int x)] := hl
  refine lv_iload_n hx hb d_O_today_0 rfl (lv_at hl 1 rfl) ?_
  refine lv_i2l hx hb d_O_today_1 rfl ?_
  refine lv_aload_n hx hb d_O_today_2 rfl (lv_at hl 0 rfl) ?_
  refine fv_get (ci := 7) (v := .int (nI td)) (C := R_O) (T := F_O) (N := 36) hx hb hts (by decide +kernel) hown hK hP 0 0 rfl rfl rfl 0 (by decide) (hts (.fieldLink R_O 88 "PartShelvesModel" "today" "I") (by decide +kernel)) (fun _ h9 => h9) rfl d_O_today_3 ?_
  refine nv_i2l hx hb d_O_today_6 (by omega) ?_
  refine lv_ldc2 (v := 100000) hx hb hown (hts (.constantLong R_O 91 100000) (by decide +kernel)) d_O_today_7 ?_
  refine nv_topl (y := lN 100000) (by decide +kernel) ?_
  refine r_calli (W.runS (As := [.long x.toInt64, .long (lN td), .long (lN 100000)]) (rest := []) ⟨hx, hb, hml, hown, hts⟩ (c_O_isIn l x.toInt64 td 100000 (by omega) (by decide)) (cwS 3 hts g_O_today_isIn rfl rfl rfl (by decide +kernel) ⟨Nat.le_of_ble_eq_true rfl, Nat.le_of_ble_eq_true rfl⟩) p0_preS rfl rfl hl.1 rfl (lv_room (Nat.le_of_ble_eq_true rfl)) d_O_today_10 ⟨Nat.le_of_ble_eq_true rfl, Nat.le_of_ble_eq_true rfl⟩) ?_
  refine lv_if_ne (tgt := 18) hx hb d_O_today_13 (by decide) (fun hc => ?_) (fun hc => ?_)
  · have hC := inL_i.mp (bI_n0.mp hc)
    obtain ⟨j, hj1, hj2, rfl⟩ := inI_n (by decide) hC
    refine lv_aload_n hx hb d_O_today_18 rfl (lv_at hl 0 rfl) ?_
    refine lv_iload_n hx hb d_O_today_19 rfl (lv_at hl 1 rfl) ?_
    refine fv_put (ci := 7) (v := .int (nI j)) (ty := (.int)) (C := R_O) (T := F_O) (N := 36) hx hb hts (by decide +kernel) t_O t_O_ok n_O hown hK hP hD hS 0 0 rfl rfl rfl 0 (by decide) (hts (.fieldLink R_O 88 "PartShelvesModel" "today" "I") (by decide +kernel)) (fun _ h9 => h9) rfl (by decide +kernel) (rfl) (rfl) (Nat.le_of_ble_eq_true rfl) d_O_today_20 (fun H locs hP hD hS => ?_)
    have hP : va_P D cls (fl [(wO kC ad j rn pn an jn tn bm fw gp ga bp fc fj rA rC ft kd aG sR sT wh dY pd cN mN sv nd wr tl lt lT lD gv gn od br)]) H := hP
    have hD : va_D A (fl [(wO kC ad j rn pn an jn tn bm fw gp ga bp fc fj rA rC ft kd aG sR sT wh dY pd cN mN sv nd wr tl lt lT lD gv gn od br)]) := hD
    refine lv_iconst (v := nI 1) hx hb d_O_today_23 (by decide) ?_
    have ew1 : j = (if inI td 100000 (nI j) then nOf (nI j) else td) := by rw [if_pos hC, nOf_nI (by omega)]
    have hP : va_P D cls (fl [(wO kC ad (if inI td 100000 (nI j) then nOf (nI j) else td) rn pn an jn tn bm fw gp ga bp fc fj rA rC ft kd aG sR sT wh dY pd cN mN sv nd wr tl lt lT lD gv gn od br)]) H := by rw [← ew1]; exact hP
    have hD : va_D A (fl [(wO kC ad (if inI td 100000 (nI j) then nOf (nI j) else td) rn pn an jn tn bm fw gp ga bp fc fj rA rC ft kd aG sR sT wh dY pd cN mN sv nd wr tl lt lT lD gv gn od br)]) := by rw [← ew1]; exact hD
    exact W.zret (v := nI 1) hx hb hr (nar_b (by first | exact Or.inl rfl | exact Or.inr rfl | exact bI_01)) (fun t ht hW => by subst hAe; exact ⟨⟨(nI 1), (), rfl, (bI_t hC).symm, by rw [ht]; exact hP, va_K.moved hW.alike hK, hD⟩, hS.F ht⟩) (by subst hAe; exact hS.2.2) d_O_today_24
  · have hC : ¬ inI td 100000 x := fun q => bI_0.mp hc (inL_i.mpr q)
    refine lv_iconst (v := nI 0) hx hb d_O_today_16 (by decide) ?_
    have ew2 : td = (if inI td 100000 x then nOf x else td) := (if_neg hC).symm
    have hP : va_P D cls (fl [(wO kC ad (if inI td 100000 x then nOf x else td) rn pn an jn tn bm fw gp ga bp fc fj rA rC ft kd aG sR sT wh dY pd cN mN sv nd wr tl lt lT lD gv gn od br)]) s.heap := by rw [← ew2]; exact hP
    have hD : va_D A (fl [(wO kC ad (if inI td 100000 x then nOf x else td) rn pn an jn tn bm fw gp ga bp fc fj rA rC ft kd aG sR sT wh dY pd cN mN sv nd wr tl lt lT lD gv gn od br)]) := by rw [← ew2]; exact hD
    exact W.zret (v := nI 0) hx hb hr (nar_b (by first | exact Or.inl rfl | exact Or.inr rfl | exact bI_01)) (fun t ht hW => by subst hAe; exact ⟨⟨(nI 0), (), rfl, (bI_f hC).symm, by rw [ht]; exact hP, va_K.moved hW.alike hK, hD⟩, hS.F ht⟩) (by subst hAe; exact hS.2.2) d_O_today_17

abbrev b_O_row : ByteArray := prog_9_method_9_code
def y_O_row : MethodName := ⟨"PartShelvesModel", "row", "(IJ)Z"⟩
theorem d_O_row_0 : decode b_O_row 0 = .ok (.aload_n 0, 1) := by decide +kernel
theorem d_O_row_1 : decode b_O_row 1 = .ok (.getfield 97, 3) := by decide +kernel
theorem d_O_row_4 : decode b_O_row 4 = .ok (.bipush 6, 2) := by decide +kernel
theorem d_O_row_6 : decode b_O_row 6 = .ok (.if_icmp .eq 48, 3) := by decide +kernel
theorem d_O_row_9 : decode b_O_row 9 = .ok (.iload_n 1, 1) := by decide +kernel
theorem d_O_row_10 : decode b_O_row 10 = .ok (.i2l, 1) := by decide +kernel
theorem d_O_row_11 : decode b_O_row 11 = .ok (.lconst 0, 1) := by decide +kernel
theorem d_O_row_12 : decode b_O_row 12 = .ok (.ldc2_w 100, 3) := by decide +kernel
theorem d_O_row_15 : decode b_O_row 15 = .ok (.invokestatic 93, 3) := by decide +kernel
theorem d_O_row_18 : decode b_O_row 18 = .ok (.ifCond .eq 36, 3) := by decide +kernel
theorem d_O_row_21 : decode b_O_row 21 = .ok (.lload_n 2, 1) := by decide +kernel
theorem d_O_row_22 : decode b_O_row 22 = .ok (.lconst 0, 1) := by decide +kernel
theorem d_O_row_23 : decode b_O_row 23 = .ok (.ldc2_w 91, 3) := by decide +kernel
theorem d_O_row_26 : decode b_O_row 26 = .ok (.invokestatic 93, 3) := by decide +kernel
theorem d_O_row_29 : decode b_O_row 29 = .ok (.ifCond .eq 25, 3) := by decide +kernel
theorem d_O_row_32 : decode b_O_row 32 = .ok (.aload_n 0, 1) := by decide +kernel
theorem d_O_row_33 : decode b_O_row 33 = .ok (.getfield 97, 3) := by decide +kernel
theorem d_O_row_36 : decode b_O_row 36 = .ok (.ifCond .le 20, 3) := by decide +kernel
theorem d_O_row_39 : decode b_O_row 39 = .ok (.iload_n 1, 1) := by decide +kernel
theorem d_O_row_40 : decode b_O_row 40 = .ok (.aload_n 0, 1) := by decide +kernel
theorem d_O_row_41 : decode b_O_row 41 = .ok (.getfield 7, 3) := by decide +kernel
theorem d_O_row_44 : decode b_O_row 44 = .ok (.aload_n 0, 1) := by decide +kernel
theorem d_O_row_45 : decode b_O_row 45 = .ok (.getfield 97, 3) := by decide +kernel
theorem d_O_row_48 : decode b_O_row 48 = .ok (.iconst 1, 1) := by decide +kernel
theorem d_O_row_49 : decode b_O_row 49 = .ok (.isub, 1) := by decide +kernel
theorem d_O_row_50 : decode b_O_row 50 = .ok (.iaload, 1) := by decide +kernel
theorem d_O_row_51 : decode b_O_row 51 = .ok (.if_icmp .gt 5, 3) := by decide +kernel
theorem d_O_row_54 : decode b_O_row 54 = .ok (.iconst 0, 1) := by decide +kernel
theorem d_O_row_55 : decode b_O_row 55 = .ok (.ireturn, 1) := by decide +kernel
theorem d_O_row_56 : decode b_O_row 56 = .ok (.aload_n 0, 1) := by decide +kernel
theorem d_O_row_57 : decode b_O_row 57 = .ok (.getfield 7, 3) := by decide +kernel
theorem d_O_row_60 : decode b_O_row 60 = .ok (.aload_n 0, 1) := by decide +kernel
theorem d_O_row_61 : decode b_O_row 61 = .ok (.getfield 97, 3) := by decide +kernel
theorem d_O_row_64 : decode b_O_row 64 = .ok (.iload_n 1, 1) := by decide +kernel
theorem d_O_row_65 : decode b_O_row 65 = .ok (.iastore, 1) := by decide +kernel
theorem d_O_row_66 : decode b_O_row 66 = .ok (.aload_n 0, 1) := by decide +kernel
theorem d_O_row_67 : decode b_O_row 67 = .ok (.getfield 13, 3) := by decide +kernel
theorem d_O_row_70 : decode b_O_row 70 = .ok (.aload_n 0, 1) := by decide +kernel
theorem d_O_row_71 : decode b_O_row 71 = .ok (.getfield 97, 3) := by decide +kernel
theorem d_O_row_74 : decode b_O_row 74 = .ok (.lload_n 2, 1) := by decide +kernel
theorem d_O_row_75 : decode b_O_row 75 = .ok (.lastore, 1) := by decide +kernel
theorem d_O_row_76 : decode b_O_row 76 = .ok (.aload_n 0, 1) := by decide +kernel
theorem d_O_row_77 : decode b_O_row 77 = .ok (.dup, 1) := by decide +kernel
theorem d_O_row_78 : decode b_O_row 78 = .ok (.getfield 97, 3) := by decide +kernel
theorem d_O_row_81 : decode b_O_row 81 = .ok (.iconst 1, 1) := by decide +kernel
theorem d_O_row_82 : decode b_O_row 82 = .ok (.iadd, 1) := by decide +kernel
theorem d_O_row_83 : decode b_O_row 83 = .ok (.putfield 97, 3) := by decide +kernel
theorem d_O_row_86 : decode b_O_row 86 = .ok (.iconst 1, 1) := by decide +kernel
theorem d_O_row_87 : decode b_O_row 87 = .ok (.ireturn, 1) := by decide +kernel
def w_O_row : List Cond := .code y_O_row b_O_row 4 (some .boolean) :: ([.fieldLink "PartShelvesModel" 97 "PartShelvesModel" "rows" "I", .constantLong "PartShelvesModel" 100 1000, .methodLink "PartShelvesModel" 93 ⟨"PartShelvesModel", "isIn", "(JJJ)Z"⟩, .static ⟨"PartShelvesModel", "isIn", "(JJJ)Z"⟩, .initialized "PartShelvesModel", .code ⟨"PartShelvesModel", "isIn", "(JJJ)Z"⟩ prog_9_method_3_code 6 (some .boolean), .constantLong "PartShelvesModel" 91 100000, .fieldLink "PartShelvesModel" 7 "PartShelvesModel" "rowAges" "[I", .fieldLink "PartShelvesModel" 13 "PartShelvesModel" "rowCents" "[J"] ++ u_ws R_O F_O 36)
set_option maxRecDepth 20000 in
theorem g_O_row_isIn : GoodIn w_O_row (wsS R_O 93 y_O_isIn w_O_isIn) := goodIn_p _ [6] rfl (by decide +kernel)
set_option maxHeartbeats 4000000 in
set_option maxRecDepth 100000 in
theorem c_O_row (l : Launch) (D : va_G) (kC : Nat → ClassId) (ad : Nat → Nat) (td : Nat) (rn : Nat) (pn : Nat) (an : Nat) (jn : Nat) (tn : Nat) (bm : Int32) (fw : Int64) (gp : Nat) (ga : Nat) (bp : Int32) (fc : Int64) (fj : Nat) (rA : Nat → Nat) (rC : Nat → Nat) (ft : Nat → Int32) (kd : Nat → Nat) (aG : Nat → Nat) (sR : Nat → Nat) (sT : Nat → Nat) (wh : Nat → Nat) (dY : Nat → Nat) (pd : Nat → Nat) (cN : Nat → Nat) (mN : Nat → Nat) (sv : Nat → Int32) (nd : Nat → Nat) (wr : Nat → Nat) (tl : Nat → Nat) (lt : Nat → Int32) (lT : Nat → Nat) (lD : Nat → Nat) (gv : Nat → Int32) (gn : Nat → Int64) (od : Nat → Nat) (br : Nat → Nat) (x : Int32) (v : Int64) (sz : Nat) (hrn : rn ≤ 6) (hrA : ∀ j, rA j ≤ 1000) : Met l y_O_row w_O_row ({ frames := 1, cells := 0, slots := 0, locals := 25 } : Room) (gPre cls D (tyL kC) [.ref (ad 0), .int x, .long v] (fl [(wO kC ad td rn pn an jn tn bm fw gp ga bp fc fj rA rC ft kd aG sR sT wh dY pd cN mN sv nd wr tl lt lT lD gv gn od br)]) sz) (gQi cls D (tyL kC) (fl [(wO kC ad td rn pn an jn tn bm fw gp ga bp fc fj rA rC ft kd aG sR sT wh dY pd cN mN sv nd wr tl lt lT lD gv gn od br)]) sz (bI (rn < 6 ∧ inI 0 1000 x ∧ inL 0 100000 v ∧ (rn = 0 ∨ rA (rn - 1) < nOf x))) (fl [(wO kC ad td (if (rn < 6 ∧ inI 0 1000 x ∧ inL 0 100000 v ∧ (rn = 0 ∨ rA (rn - 1) < nOf x)) then rn + 1 else rn) pn an jn tn bm fw gp ga bp fc fj (if (rn < 6 ∧ inI 0 1000 x ∧ inL 0 100000 v ∧ (rn = 0 ∨ rA (rn - 1) < nOf x)) then updN rA rn (nOf x) else rA) (if (rn < 6 ∧ inI 0 1000 x ∧ inL 0 100000 v ∧ (rn = 0 ∨ rA (rn - 1) < nOf x)) then updN rC rn (nOfL v) else rC) ft kd aG sR sT wh dY pd cN mN sv nd wr tl lt lT lD gv gn od br)])) 0 0 (va_A (fl [(wO kC ad td rn pn an jn tn bm fw gp ga bp fc fj rA rC ft kd aG sR sT wh dY pd cN mN sv nd wr tl lt lT lD gv gn od br)]) sz) := by
  refine Met.ofW (cc := b_O_row) (maxL := 4) (ret := (some .boolean)) (by decide) rfl ?_
  intro p e s m args below meth c s₁ B hml hv
  obtain ⟨rfl, hsz, hP, hK, hD0⟩ := hv
  have hx := B.exec
  have hb := B.bytes
  have hr := B.returns
  have hts := atoms_spec (ws := w_O_row) B.pre
  have hown : s.vm.findClass R_O = some m.cls := findClass_of_methodNamed B.named
  have hlocks := B.notSynchronized
  subst hsz
  obtain ⟨A, hAe⟩ : ∃ A : Nat → Prop, A = va_A (fl [(wO kC ad td rn pn an jn tn bm fw gp ga bp fc fj rA rC ft kd aG sR sT wh dY pd cN mN sv nd wr tl lt lT lD gv gn od br)]) s.heap.size := ⟨_, rfl⟩
  have hD : va_D A (fl [(wO kC ad td rn pn an jn tn bm fw gp ga bp fc fj rA rC ft kd aG sR sT wh dY pd cN mN sv nd wr tl lt lT lD gv gn od br)]) := by rw [hAe]; exact hD0.self
  have hA : ∀ q : Nat, s.heap.size ≤ q → A q := fun q h => by rw [hAe]; exact Or.inr h
  have hS : va_S A s.heap s.heap [] := va_S.rf
  have hl := lv_entry ([.ref (ad 0), .int x, .long v]) (n := 4) (Nat.le_of_ble_eq_true rfl)
  rw [lg_entry_eq]
  generalize (lg_sl ([.ref (ad 0), .int x, .long v]) ++ List.replicate (4 - (lg_sl ([.ref (ad 0), .int x, .long v])).length) Slot.unset).toArray = ls at hl ⊢
  have hl : lv_has ls 4 [(0, .ref (ad 0)), (1, .int x), (2, .long v)] := hl
  refine lv_aload_n hx hb d_O_row_0 rfl (lv_at hl 0 rfl) ?_
  refine fv_get (ci := 7) (v := .int (nI rn)) (C := R_O) (T := F_O) (N := 36) hx hb hts (by decide +kernel) hown hK hP 0 0 rfl rfl rfl 1 (by decide) (hts (.fieldLink R_O 97 "PartShelvesModel" "rows" "I") (by decide +kernel)) (fun _ h9 => h9) rfl d_O_row_1 ?_
  refine lv_bipush (v := nI 6) hx hb d_O_row_4 (by decide +kernel) ?_
  refine nv_icmp_eq (tgt := 54) hx hb d_O_row_6 (by decide) (by omega) (by omega) (fun h1 => ?_) (fun h1 => ?_)
  · have hC : ¬ (rn < 6 ∧ inI 0 1000 x ∧ inL 0 100000 v ∧ (rn = 0 ∨ rA (rn - 1) < nOf x)) := fun q => by first | (have := q.1; omega) | exact absurd (inL_i.mpr q.2.1) (bI_0.mp h2) | exact absurd q.2.2.1 (bI_0.mp h3) | (rcases q.2.2.2 with q4 | q4; omega; rw [nOf_nI (by omega)] at q4; omega)
    refine lv_iconst (v := nI 0) hx hb d_O_row_54 (by decide) ?_
    have ew1 : rA = (if (rn < 6 ∧ inI 0 1000 x ∧ inL 0 100000 v ∧ (rn = 0 ∨ rA (rn - 1) < nOf x)) then updN rA rn (nOf x) else rA) := (if_neg hC).symm
    have hP : va_P D cls (fl [(wO kC ad td rn pn an jn tn bm fw gp ga bp fc fj (if (rn < 6 ∧ inI 0 1000 x ∧ inL 0 100000 v ∧ (rn = 0 ∨ rA (rn - 1) < nOf x)) then updN rA rn (nOf x) else rA) rC ft kd aG sR sT wh dY pd cN mN sv nd wr tl lt lT lD gv gn od br)]) s.heap := by rw [← ew1]; exact hP
    have hD : va_D A (fl [(wO kC ad td rn pn an jn tn bm fw gp ga bp fc fj (if (rn < 6 ∧ inI 0 1000 x ∧ inL 0 100000 v ∧ (rn = 0 ∨ rA (rn - 1) < nOf x)) then updN rA rn (nOf x) else rA) rC ft kd aG sR sT wh dY pd cN mN sv nd wr tl lt lT lD gv gn od br)]) := by rw [← ew1]; exact hD
    have ew2 : rC = (if (rn < 6 ∧ inI 0 1000 x ∧ inL 0 100000 v ∧ (rn = 0 ∨ rA (rn - 1) < nOf x)) then updN rC rn (nOfL v) else rC) := (if_neg hC).symm
    have hP : va_P D cls (fl [(wO kC ad td rn pn an jn tn bm fw gp ga bp fc fj (if (rn < 6 ∧ inI 0 1000 x ∧ inL 0 100000 v ∧ (rn = 0 ∨ rA (rn - 1) < nOf x)) then updN rA rn (nOf x) else rA) (if (rn < 6 ∧ inI 0 1000 x ∧ inL 0 100000 v ∧ (rn = 0 ∨ rA (rn - 1) < nOf x)) then updN rC rn (nOfL v) else rC) ft kd aG sR sT wh dY pd cN mN sv nd wr tl lt lT lD gv gn od br)]) s.heap := by rw [← ew2]; exact hP
    have hD : va_D A (fl [(wO kC ad td rn pn an jn tn bm fw gp ga bp fc fj (if (rn < 6 ∧ inI 0 1000 x ∧ inL 0 100000 v ∧ (rn = 0 ∨ rA (rn - 1) < nOf x)) then updN rA rn (nOf x) else rA) (if (rn < 6 ∧ inI 0 1000 x ∧ inL 0 100000 v ∧ (rn = 0 ∨ rA (rn - 1) < nOf x)) then updN rC rn (nOfL v) else rC) ft kd aG sR sT wh dY pd cN mN sv nd wr tl lt lT lD gv gn od br)]) := by rw [← ew2]; exact hD
    have ew3 : rn = (if (rn < 6 ∧ inI 0 1000 x ∧ inL 0 100000 v ∧ (rn = 0 ∨ rA (rn - 1) < nOf x)) then rn + 1 else rn) := (if_neg hC).symm
    have hP : va_P D cls (fl [(wO kC ad td (if (rn < 6 ∧ inI 0 1000 x ∧ inL 0 100000 v ∧ (rn = 0 ∨ rA (rn - 1) < nOf x)) then rn + 1 else rn) pn an jn tn bm fw gp ga bp fc fj (if (rn < 6 ∧ inI 0 1000 x ∧ inL 0 100000 v ∧ (rn = 0 ∨ rA (rn - 1) < nOf x)) then updN rA rn (nOf x) else rA) (if (rn < 6 ∧ inI 0 1000 x ∧ inL 0 100000 v ∧ (rn = 0 ∨ rA (rn - 1) < nOf x)) then updN rC rn (nOfL v) else rC) ft kd aG sR sT wh dY pd cN mN sv nd wr tl lt lT lD gv gn od br)]) s.heap := by rw [← ew3]; exact hP
    have hD : va_D A (fl [(wO kC ad td (if (rn < 6 ∧ inI 0 1000 x ∧ inL 0 100000 v ∧ (rn = 0 ∨ rA (rn - 1) < nOf x)) then rn + 1 else rn) pn an jn tn bm fw gp ga bp fc fj (if (rn < 6 ∧ inI 0 1000 x ∧ inL 0 100000 v ∧ (rn = 0 ∨ rA (rn - 1) < nOf x)) then updN rA rn (nOf x) else rA) (if (rn < 6 ∧ inI 0 1000 x ∧ inL 0 100000 v ∧ (rn = 0 ∨ rA (rn - 1) < nOf x)) then updN rC rn (nOfL v) else rC) ft kd aG sR sT wh dY pd cN mN sv nd wr tl lt lT lD gv gn od br)]) := by rw [← ew3]; exact hD
    exact W.zret (v := nI 0) hx hb hr (nar_b (by first | exact Or.inl rfl | exact Or.inr rfl | exact bI_01)) (fun t ht hW => by subst hAe; exact ⟨⟨(nI 0), (), rfl, (bI_f hC).symm, by rw [ht]; exact hP, va_K.moved hW.alike hK, hD⟩, hS.F ht⟩) (by subst hAe; exact hS.2.2) d_O_row_55
  · refine lv_iload_n hx hb d_O_row_9 rfl (lv_at hl 1 rfl) ?_
    refine lv_i2l hx hb d_O_row_10 rfl ?_
    refine lv_lconst (v := lN 0) hx hb d_O_row_11 (by decide) ?_
    refine lv_ldc2 (v := 1000) hx hb hown (hts (.constantLong R_O 100 1000) (by decide +kernel)) d_O_row_12 ?_
    refine nv_topl (y := lN 1000) (by decide +kernel) ?_
    refine r_calli (W.runS (As := [.long x.toInt64, .long (lN 0), .long (lN 1000)]) (rest := []) ⟨hx, hb, hml, hown, hts⟩ (c_O_isIn l x.toInt64 0 1000 (by decide) (by decide)) (cwS 3 hts g_O_row_isIn rfl rfl rfl (by decide +kernel) ⟨Nat.le_of_ble_eq_true rfl, Nat.le_of_ble_eq_true rfl⟩) p0_preS rfl rfl hl.1 rfl (lv_room (Nat.le_of_ble_eq_true rfl)) d_O_row_15 ⟨Nat.le_of_ble_eq_true rfl, Nat.le_of_ble_eq_true rfl⟩) ?_
    refine lv_if_eq (tgt := 54) hx hb d_O_row_18 (by decide) (fun h2 => ?_) (fun h2 => ?_)
    · have hC : ¬ (rn < 6 ∧ inI 0 1000 x ∧ inL 0 100000 v ∧ (rn = 0 ∨ rA (rn - 1) < nOf x)) := fun q => by first | (have := q.1; omega) | exact absurd (inL_i.mpr q.2.1) (bI_0.mp h2) | exact absurd q.2.2.1 (bI_0.mp h3) | (rcases q.2.2.2 with q4 | q4; omega; rw [nOf_nI (by omega)] at q4; omega)
      refine lv_iconst (v := nI 0) hx hb d_O_row_54 (by decide) ?_
      have ew4 : rA = (if (rn < 6 ∧ inI 0 1000 x ∧ inL 0 100000 v ∧ (rn = 0 ∨ rA (rn - 1) < nOf x)) then updN rA rn (nOf x) else rA) := (if_neg hC).symm
      have hP : va_P D cls (fl [(wO kC ad td rn pn an jn tn bm fw gp ga bp fc fj (if (rn < 6 ∧ inI 0 1000 x ∧ inL 0 100000 v ∧ (rn = 0 ∨ rA (rn - 1) < nOf x)) then updN rA rn (nOf x) else rA) rC ft kd aG sR sT wh dY pd cN mN sv nd wr tl lt lT lD gv gn od br)]) s.heap := by rw [← ew4]; exact hP
      have hD : va_D A (fl [(wO kC ad td rn pn an jn tn bm fw gp ga bp fc fj (if (rn < 6 ∧ inI 0 1000 x ∧ inL 0 100000 v ∧ (rn = 0 ∨ rA (rn - 1) < nOf x)) then updN rA rn (nOf x) else rA) rC ft kd aG sR sT wh dY pd cN mN sv nd wr tl lt lT lD gv gn od br)]) := by rw [← ew4]; exact hD
      have ew5 : rC = (if (rn < 6 ∧ inI 0 1000 x ∧ inL 0 100000 v ∧ (rn = 0 ∨ rA (rn - 1) < nOf x)) then updN rC rn (nOfL v) else rC) := (if_neg hC).symm
      have hP : va_P D cls (fl [(wO kC ad td rn pn an jn tn bm fw gp ga bp fc fj (if (rn < 6 ∧ inI 0 1000 x ∧ inL 0 100000 v ∧ (rn = 0 ∨ rA (rn - 1) < nOf x)) then updN rA rn (nOf x) else rA) (if (rn < 6 ∧ inI 0 1000 x ∧ inL 0 100000 v ∧ (rn = 0 ∨ rA (rn - 1) < nOf x)) then updN rC rn (nOfL v) else rC) ft kd aG sR sT wh dY pd cN mN sv nd wr tl lt lT lD gv gn od br)]) s.heap := by rw [← ew5]; exact hP
      have hD : va_D A (fl [(wO kC ad td rn pn an jn tn bm fw gp ga bp fc fj (if (rn < 6 ∧ inI 0 1000 x ∧ inL 0 100000 v ∧ (rn = 0 ∨ rA (rn - 1) < nOf x)) then updN rA rn (nOf x) else rA) (if (rn < 6 ∧ inI 0 1000 x ∧ inL 0 100000 v ∧ (rn = 0 ∨ rA (rn - 1) < nOf x)) then updN rC rn (nOfL v) else rC) ft kd aG sR sT wh dY pd cN mN sv nd wr tl lt lT lD gv gn od br)]) := by rw [← ew5]; exact hD
      have ew6 : rn = (if (rn < 6 ∧ inI 0 1000 x ∧ inL 0 100000 v ∧ (rn = 0 ∨ rA (rn - 1) < nOf x)) then rn + 1 else rn) := (if_neg hC).symm
      have hP : va_P D cls (fl [(wO kC ad td (if (rn < 6 ∧ inI 0 1000 x ∧ inL 0 100000 v ∧ (rn = 0 ∨ rA (rn - 1) < nOf x)) then rn + 1 else rn) pn an jn tn bm fw gp ga bp fc fj (if (rn < 6 ∧ inI 0 1000 x ∧ inL 0 100000 v ∧ (rn = 0 ∨ rA (rn - 1) < nOf x)) then updN rA rn (nOf x) else rA) (if (rn < 6 ∧ inI 0 1000 x ∧ inL 0 100000 v ∧ (rn = 0 ∨ rA (rn - 1) < nOf x)) then updN rC rn (nOfL v) else rC) ft kd aG sR sT wh dY pd cN mN sv nd wr tl lt lT lD gv gn od br)]) s.heap := by rw [← ew6]; exact hP
      have hD : va_D A (fl [(wO kC ad td (if (rn < 6 ∧ inI 0 1000 x ∧ inL 0 100000 v ∧ (rn = 0 ∨ rA (rn - 1) < nOf x)) then rn + 1 else rn) pn an jn tn bm fw gp ga bp fc fj (if (rn < 6 ∧ inI 0 1000 x ∧ inL 0 100000 v ∧ (rn = 0 ∨ rA (rn - 1) < nOf x)) then updN rA rn (nOf x) else rA) (if (rn < 6 ∧ inI 0 1000 x ∧ inL 0 100000 v ∧ (rn = 0 ∨ rA (rn - 1) < nOf x)) then updN rC rn (nOfL v) else rC) ft kd aG sR sT wh dY pd cN mN sv nd wr tl lt lT lD gv gn od br)]) := by rw [← ew6]; exact hD
      exact W.zret (v := nI 0) hx hb hr (nar_b (by first | exact Or.inl rfl | exact Or.inr rfl | exact bI_01)) (fun t ht hW => by subst hAe; exact ⟨⟨(nI 0), (), rfl, (bI_f hC).symm, by rw [ht]; exact hP, va_K.moved hW.alike hK, hD⟩, hS.F ht⟩) (by subst hAe; exact hS.2.2) d_O_row_55
    · have h2 := inL_i.mp (bI_n0.mp h2)
      refine lv_lload_n hx hb d_O_row_21 rfl (lv_at hl 2 rfl) ?_
      refine lv_lconst (v := lN 0) hx hb d_O_row_22 (by decide) ?_
      refine lv_ldc2 (v := 100000) hx hb hown (hts (.constantLong R_O 91 100000) (by decide +kernel)) d_O_row_23 ?_
      refine nv_topl (y := lN 100000) (by decide +kernel) ?_
      refine r_calli (W.runS (As := [.long v, .long (lN 0), .long (lN 100000)]) (rest := []) ⟨hx, hb, hml, hown, hts⟩ (c_O_isIn l v 0 100000 (by decide) (by decide)) (cwS 3 hts g_O_row_isIn rfl rfl rfl (by decide +kernel) ⟨Nat.le_of_ble_eq_true rfl, Nat.le_of_ble_eq_true rfl⟩) p0_preS rfl rfl hl.1 rfl (lv_room (Nat.le_of_ble_eq_true rfl)) d_O_row_26 ⟨Nat.le_of_ble_eq_true rfl, Nat.le_of_ble_eq_true rfl⟩) ?_
      refine lv_if_eq (tgt := 54) hx hb d_O_row_29 (by decide) (fun h3 => ?_) (fun h3 => ?_)
      · have hC : ¬ (rn < 6 ∧ inI 0 1000 x ∧ inL 0 100000 v ∧ (rn = 0 ∨ rA (rn - 1) < nOf x)) := fun q => by first | (have := q.1; omega) | exact absurd (inL_i.mpr q.2.1) (bI_0.mp h2) | exact absurd q.2.2.1 (bI_0.mp h3) | (rcases q.2.2.2 with q4 | q4; omega; rw [nOf_nI (by omega)] at q4; omega)
        refine lv_iconst (v := nI 0) hx hb d_O_row_54 (by decide) ?_
        have ew7 : rA = (if (rn < 6 ∧ inI 0 1000 x ∧ inL 0 100000 v ∧ (rn = 0 ∨ rA (rn - 1) < nOf x)) then updN rA rn (nOf x) else rA) := (if_neg hC).symm
        have hP : va_P D cls (fl [(wO kC ad td rn pn an jn tn bm fw gp ga bp fc fj (if (rn < 6 ∧ inI 0 1000 x ∧ inL 0 100000 v ∧ (rn = 0 ∨ rA (rn - 1) < nOf x)) then updN rA rn (nOf x) else rA) rC ft kd aG sR sT wh dY pd cN mN sv nd wr tl lt lT lD gv gn od br)]) s.heap := by rw [← ew7]; exact hP
        have hD : va_D A (fl [(wO kC ad td rn pn an jn tn bm fw gp ga bp fc fj (if (rn < 6 ∧ inI 0 1000 x ∧ inL 0 100000 v ∧ (rn = 0 ∨ rA (rn - 1) < nOf x)) then updN rA rn (nOf x) else rA) rC ft kd aG sR sT wh dY pd cN mN sv nd wr tl lt lT lD gv gn od br)]) := by rw [← ew7]; exact hD
        have ew8 : rC = (if (rn < 6 ∧ inI 0 1000 x ∧ inL 0 100000 v ∧ (rn = 0 ∨ rA (rn - 1) < nOf x)) then updN rC rn (nOfL v) else rC) := (if_neg hC).symm
        have hP : va_P D cls (fl [(wO kC ad td rn pn an jn tn bm fw gp ga bp fc fj (if (rn < 6 ∧ inI 0 1000 x ∧ inL 0 100000 v ∧ (rn = 0 ∨ rA (rn - 1) < nOf x)) then updN rA rn (nOf x) else rA) (if (rn < 6 ∧ inI 0 1000 x ∧ inL 0 100000 v ∧ (rn = 0 ∨ rA (rn - 1) < nOf x)) then updN rC rn (nOfL v) else rC) ft kd aG sR sT wh dY pd cN mN sv nd wr tl lt lT lD gv gn od br)]) s.heap := by rw [← ew8]; exact hP
        have hD : va_D A (fl [(wO kC ad td rn pn an jn tn bm fw gp ga bp fc fj (if (rn < 6 ∧ inI 0 1000 x ∧ inL 0 100000 v ∧ (rn = 0 ∨ rA (rn - 1) < nOf x)) then updN rA rn (nOf x) else rA) (if (rn < 6 ∧ inI 0 1000 x ∧ inL 0 100000 v ∧ (rn = 0 ∨ rA (rn - 1) < nOf x)) then updN rC rn (nOfL v) else rC) ft kd aG sR sT wh dY pd cN mN sv nd wr tl lt lT lD gv gn od br)]) := by rw [← ew8]; exact hD
        have ew9 : rn = (if (rn < 6 ∧ inI 0 1000 x ∧ inL 0 100000 v ∧ (rn = 0 ∨ rA (rn - 1) < nOf x)) then rn + 1 else rn) := (if_neg hC).symm
        have hP : va_P D cls (fl [(wO kC ad td (if (rn < 6 ∧ inI 0 1000 x ∧ inL 0 100000 v ∧ (rn = 0 ∨ rA (rn - 1) < nOf x)) then rn + 1 else rn) pn an jn tn bm fw gp ga bp fc fj (if (rn < 6 ∧ inI 0 1000 x ∧ inL 0 100000 v ∧ (rn = 0 ∨ rA (rn - 1) < nOf x)) then updN rA rn (nOf x) else rA) (if (rn < 6 ∧ inI 0 1000 x ∧ inL 0 100000 v ∧ (rn = 0 ∨ rA (rn - 1) < nOf x)) then updN rC rn (nOfL v) else rC) ft kd aG sR sT wh dY pd cN mN sv nd wr tl lt lT lD gv gn od br)]) s.heap := by rw [← ew9]; exact hP
        have hD : va_D A (fl [(wO kC ad td (if (rn < 6 ∧ inI 0 1000 x ∧ inL 0 100000 v ∧ (rn = 0 ∨ rA (rn - 1) < nOf x)) then rn + 1 else rn) pn an jn tn bm fw gp ga bp fc fj (if (rn < 6 ∧ inI 0 1000 x ∧ inL 0 100000 v ∧ (rn = 0 ∨ rA (rn - 1) < nOf x)) then updN rA rn (nOf x) else rA) (if (rn < 6 ∧ inI 0 1000 x ∧ inL 0 100000 v ∧ (rn = 0 ∨ rA (rn - 1) < nOf x)) then updN rC rn (nOfL v) else rC) ft kd aG sR sT wh dY pd cN mN sv nd wr tl lt lT lD gv gn od br)]) := by rw [← ew9]; exact hD
        exact W.zret (v := nI 0) hx hb hr (nar_b (by first | exact Or.inl rfl | exact Or.inr rfl | exact bI_01)) (fun t ht hW => by subst hAe; exact ⟨⟨(nI 0), (), rfl, (bI_f hC).symm, by rw [ht]; exact hP, va_K.moved hW.alike hK, hD⟩, hS.F ht⟩) (by subst hAe; exact hS.2.2) d_O_row_55
      · have h3 := bI_n0.mp h3
        obtain ⟨j, hj1, hj2, rfl⟩ := inI_n (by decide) h2
        obtain ⟨k, hk1, hk2, rfl⟩ := inL_n (by decide) h3
        refine lv_aload_n hx hb d_O_row_32 rfl (lv_at hl 0 rfl) ?_
        refine fv_get (ci := 7) (v := .int (nI rn)) (C := R_O) (T := F_O) (N := 36) hx hb hts (by decide +kernel) hown hK hP 0 0 rfl rfl rfl 1 (by decide) (hts (.fieldLink R_O 97 "PartShelvesModel" "rows" "I") (by decide +kernel)) (fun _ h9 => h9) rfl d_O_row_33 ?_
        refine nv_if_le (tgt := 56) hx hb d_O_row_36 (by decide) (by omega) (fun h4 => ?_) (fun h4 => ?_)
        · have hC : (rn < 6 ∧ inI 0 1000 (nI j) ∧ inL 0 100000 (lN k) ∧ (rn = 0 ∨ rA (rn - 1) < nOf (nI j))) := ⟨by omega, h2, h3, by first | (left; omega) | (right; rw [nOf_nI (by omega)]; omega)⟩
          refine lv_aload_n hx hb d_O_row_56 rfl (lv_at hl 0 rfl) ?_
          refine fv_get (ci := 7) (v := .ref (ad 1)) (C := R_O) (T := F_O) (N := 36) hx hb hts (by decide +kernel) hown hK hP 0 0 rfl rfl rfl 2 (by decide) (hts (.fieldLink R_O 7 "PartShelvesModel" "rowAges" "[I") (by decide +kernel)) (fun _ h9 => h9) rfl d_O_row_57 ?_
          refine lv_aload_n hx hb d_O_row_60 rfl (lv_at hl 0 rfl) ?_
          refine fv_get (ci := 7) (v := .int (nI rn)) (C := R_O) (T := F_O) (N := 36) hx hb hts (by decide +kernel) hown hK hP 0 0 rfl rfl rfl 1 (by decide) (hts (.fieldLink R_O 97 "PartShelvesModel" "rows" "I") (by decide +kernel)) (fun _ h9 => h9) rfl d_O_row_61 ?_
          refine lv_iload_n hx hb d_O_row_64 rfl (lv_at hl 1 rfl) ?_
          refine fa_iastN hx hb hK hP hD hS 0 1 0 rfl rfl rfl (by omega) (by decide) d_O_row_65 (fun H locs hP hD hS => ?_)
          have hP : va_P D cls (fl [(wO kC ad td rn pn an jn tn bm fw gp ga bp fc fj (updN rA rn j) rC ft kd aG sR sT wh dY pd cN mN sv nd wr tl lt lT lD gv gn od br)]) H := hP
          have hD : va_D A (fl [(wO kC ad td rn pn an jn tn bm fw gp ga bp fc fj (updN rA rn j) rC ft kd aG sR sT wh dY pd cN mN sv nd wr tl lt lT lD gv gn od br)]) := hD
          refine lv_aload_n hx hb d_O_row_66 rfl (lv_at hl 0 rfl) ?_
          refine fv_get (ci := 7) (v := .ref (ad 2)) (C := R_O) (T := F_O) (N := 36) hx hb hts (by decide +kernel) hown hK hP 0 0 rfl rfl rfl 3 (by decide) (hts (.fieldLink R_O 13 "PartShelvesModel" "rowCents" "[J") (by decide +kernel)) (fun _ h9 => h9) rfl d_O_row_67 ?_
          refine lv_aload_n hx hb d_O_row_70 rfl (lv_at hl 0 rfl) ?_
          refine fv_get (ci := 7) (v := .int (nI rn)) (C := R_O) (T := F_O) (N := 36) hx hb hts (by decide +kernel) hown hK hP 0 0 rfl rfl rfl 1 (by decide) (hts (.fieldLink R_O 97 "PartShelvesModel" "rows" "I") (by decide +kernel)) (fun _ h9 => h9) rfl d_O_row_71 ?_
          refine lv_lload_n hx hb d_O_row_74 rfl (lv_at hl 2 rfl) ?_
          refine fa_lastN hx hb hK hP hD hS 0 2 1 rfl rfl rfl (by omega) (by decide) d_O_row_75 (fun H locs hP hD hS => ?_)
          have hP : va_P D cls (fl [(wO kC ad td rn pn an jn tn bm fw gp ga bp fc fj (updN rA rn j) (updN rC rn k) ft kd aG sR sT wh dY pd cN mN sv nd wr tl lt lT lD gv gn od br)]) H := hP
          have hD : va_D A (fl [(wO kC ad td rn pn an jn tn bm fw gp ga bp fc fj (updN rA rn j) (updN rC rn k) ft kd aG sR sT wh dY pd cN mN sv nd wr tl lt lT lD gv gn od br)]) := hD
          refine lv_aload_n hx hb d_O_row_76 rfl (lv_at hl 0 rfl) ?_
          refine lv_dup hx hb d_O_row_77 rfl ?_
          refine fv_get (ci := 7) (v := .int (nI rn)) (C := R_O) (T := F_O) (N := 36) hx hb hts (by decide +kernel) hown hK hP 0 0 rfl rfl rfl 1 (by decide) (hts (.fieldLink R_O 97 "PartShelvesModel" "rows" "I") (by decide +kernel)) (fun _ h9 => h9) rfl d_O_row_78 ?_
          refine lv_iconst (v := nI 1) hx hb d_O_row_81 (by decide) ?_
          refine nv_iadd hx hb d_O_row_82 ?_
          refine fv_put (ci := 7) (v := .int (nI (rn + 1))) (ty := (.int)) (C := R_O) (T := F_O) (N := 36) hx hb hts (by decide +kernel) t_O t_O_ok n_O hown hK hP hD hS 0 0 rfl rfl rfl 1 (by decide) (hts (.fieldLink R_O 97 "PartShelvesModel" "rows" "I") (by decide +kernel)) (fun _ h9 => h9) rfl (by decide +kernel) (rfl) (rfl) (Nat.le_of_ble_eq_true rfl) d_O_row_83 (fun H locs hP hD hS => ?_)
          have hP : va_P D cls (fl [(wO kC ad td (rn + 1) pn an jn tn bm fw gp ga bp fc fj (updN rA rn j) (updN rC rn k) ft kd aG sR sT wh dY pd cN mN sv nd wr tl lt lT lD gv gn od br)]) H := hP
          have hD : va_D A (fl [(wO kC ad td (rn + 1) pn an jn tn bm fw gp ga bp fc fj (updN rA rn j) (updN rC rn k) ft kd aG sR sT wh dY pd cN mN sv nd wr tl lt lT lD gv gn od br)]) := hD
          refine lv_iconst (v := nI 1) hx hb d_O_row_86 (by decide) ?_
          have ew10 : (updN rA rn j) = (if (rn < 6 ∧ inI 0 1000 (nI j) ∧ inL 0 100000 (lN k) ∧ (rn = 0 ∨ rA (rn - 1) < nOf (nI j))) then updN rA rn (nOf (nI j)) else rA) := by rw [if_pos hC, nOf_nI (by omega)]
          have hP : va_P D cls (fl [(wO kC ad td (rn + 1) pn an jn tn bm fw gp ga bp fc fj (if (rn < 6 ∧ inI 0 1000 (nI j) ∧ inL 0 100000 (lN k) ∧ (rn = 0 ∨ rA (rn - 1) < nOf (nI j))) then updN rA rn (nOf (nI j)) else rA) (updN rC rn k) ft kd aG sR sT wh dY pd cN mN sv nd wr tl lt lT lD gv gn od br)]) H := by rw [← ew10]; exact hP
          have hD : va_D A (fl [(wO kC ad td (rn + 1) pn an jn tn bm fw gp ga bp fc fj (if (rn < 6 ∧ inI 0 1000 (nI j) ∧ inL 0 100000 (lN k) ∧ (rn = 0 ∨ rA (rn - 1) < nOf (nI j))) then updN rA rn (nOf (nI j)) else rA) (updN rC rn k) ft kd aG sR sT wh dY pd cN mN sv nd wr tl lt lT lD gv gn od br)]) := by rw [← ew10]; exact hD
          have ew11 : (updN rC rn k) = (if (rn < 6 ∧ inI 0 1000 (nI j) ∧ inL 0 100000 (lN k) ∧ (rn = 0 ∨ rA (rn - 1) < nOf (nI j))) then updN rC rn (nOfL (lN k)) else rC) := by rw [if_pos hC, nOfL_lN (by omega)]
          have hP : va_P D cls (fl [(wO kC ad td (rn + 1) pn an jn tn bm fw gp ga bp fc fj (if (rn < 6 ∧ inI 0 1000 (nI j) ∧ inL 0 100000 (lN k) ∧ (rn = 0 ∨ rA (rn - 1) < nOf (nI j))) then updN rA rn (nOf (nI j)) else rA) (if (rn < 6 ∧ inI 0 1000 (nI j) ∧ inL 0 100000 (lN k) ∧ (rn = 0 ∨ rA (rn - 1) < nOf (nI j))) then updN rC rn (nOfL (lN k)) else rC) ft kd aG sR sT wh dY pd cN mN sv nd wr tl lt lT lD gv gn od br)]) H := by rw [← ew11]; exact hP
          have hD : va_D A (fl [(wO kC ad td (rn + 1) pn an jn tn bm fw gp ga bp fc fj (if (rn < 6 ∧ inI 0 1000 (nI j) ∧ inL 0 100000 (lN k) ∧ (rn = 0 ∨ rA (rn - 1) < nOf (nI j))) then updN rA rn (nOf (nI j)) else rA) (if (rn < 6 ∧ inI 0 1000 (nI j) ∧ inL 0 100000 (lN k) ∧ (rn = 0 ∨ rA (rn - 1) < nOf (nI j))) then updN rC rn (nOfL (lN k)) else rC) ft kd aG sR sT wh dY pd cN mN sv nd wr tl lt lT lD gv gn od br)]) := by rw [← ew11]; exact hD
          have ew12 : (rn + 1) = (if (rn < 6 ∧ inI 0 1000 (nI j) ∧ inL 0 100000 (lN k) ∧ (rn = 0 ∨ rA (rn - 1) < nOf (nI j))) then rn + 1 else rn) := by rw [if_pos hC]
          have hP : va_P D cls (fl [(wO kC ad td (if (rn < 6 ∧ inI 0 1000 (nI j) ∧ inL 0 100000 (lN k) ∧ (rn = 0 ∨ rA (rn - 1) < nOf (nI j))) then rn + 1 else rn) pn an jn tn bm fw gp ga bp fc fj (if (rn < 6 ∧ inI 0 1000 (nI j) ∧ inL 0 100000 (lN k) ∧ (rn = 0 ∨ rA (rn - 1) < nOf (nI j))) then updN rA rn (nOf (nI j)) else rA) (if (rn < 6 ∧ inI 0 1000 (nI j) ∧ inL 0 100000 (lN k) ∧ (rn = 0 ∨ rA (rn - 1) < nOf (nI j))) then updN rC rn (nOfL (lN k)) else rC) ft kd aG sR sT wh dY pd cN mN sv nd wr tl lt lT lD gv gn od br)]) H := by rw [← ew12]; exact hP
          have hD : va_D A (fl [(wO kC ad td (if (rn < 6 ∧ inI 0 1000 (nI j) ∧ inL 0 100000 (lN k) ∧ (rn = 0 ∨ rA (rn - 1) < nOf (nI j))) then rn + 1 else rn) pn an jn tn bm fw gp ga bp fc fj (if (rn < 6 ∧ inI 0 1000 (nI j) ∧ inL 0 100000 (lN k) ∧ (rn = 0 ∨ rA (rn - 1) < nOf (nI j))) then updN rA rn (nOf (nI j)) else rA) (if (rn < 6 ∧ inI 0 1000 (nI j) ∧ inL 0 100000 (lN k) ∧ (rn = 0 ∨ rA (rn - 1) < nOf (nI j))) then updN rC rn (nOfL (lN k)) else rC) ft kd aG sR sT wh dY pd cN mN sv nd wr tl lt lT lD gv gn od br)]) := by rw [← ew12]; exact hD
          exact W.zret (v := nI 1) hx hb hr (nar_b (by first | exact Or.inl rfl | exact Or.inr rfl | exact bI_01)) (fun t ht hW => by subst hAe; exact ⟨⟨(nI 1), (), rfl, (bI_t hC).symm, by rw [ht]; exact hP, va_K.moved hW.alike hK, hD⟩, hS.F ht⟩) (by subst hAe; exact hS.2.2) d_O_row_87
        · refine lv_iload_n hx hb d_O_row_39 rfl (lv_at hl 1 rfl) ?_
          refine lv_aload_n hx hb d_O_row_40 rfl (lv_at hl 0 rfl) ?_
          refine fv_get (ci := 7) (v := .ref (ad 1)) (C := R_O) (T := F_O) (N := 36) hx hb hts (by decide +kernel) hown hK hP 0 0 rfl rfl rfl 2 (by decide) (hts (.fieldLink R_O 7 "PartShelvesModel" "rowAges" "[I") (by decide +kernel)) (fun _ h9 => h9) rfl d_O_row_41 ?_
          refine lv_aload_n hx hb d_O_row_44 rfl (lv_at hl 0 rfl) ?_
          refine fv_get (ci := 7) (v := .int (nI rn)) (C := R_O) (T := F_O) (N := 36) hx hb hts (by decide +kernel) hown hK hP 0 0 rfl rfl rfl 1 (by decide) (hts (.fieldLink R_O 97 "PartShelvesModel" "rows" "I") (by decide +kernel)) (fun _ h9 => h9) rfl d_O_row_45 ?_
          refine lv_iconst (v := nI 1) hx hb d_O_row_48 (by decide) ?_
          refine nv_isub hx hb d_O_row_49 (by omega) ?_
          refine fa_ialdN hx hb hK hP 0 1 0 rfl rfl rfl (by omega) (by decide) d_O_row_50 ?_
          refine nv_icmp_gt (tgt := 56) hx hb d_O_row_51 (by decide) (by omega) (by have := hrA (rn - 1); omega) (fun h5 => ?_) (fun h5 => ?_)
          · have hC : (rn < 6 ∧ inI 0 1000 (nI j) ∧ inL 0 100000 (lN k) ∧ (rn = 0 ∨ rA (rn - 1) < nOf (nI j))) := ⟨by omega, h2, h3, by first | (left; omega) | (right; rw [nOf_nI (by omega)]; omega)⟩
            refine lv_aload_n hx hb d_O_row_56 rfl (lv_at hl 0 rfl) ?_
            refine fv_get (ci := 7) (v := .ref (ad 1)) (C := R_O) (T := F_O) (N := 36) hx hb hts (by decide +kernel) hown hK hP 0 0 rfl rfl rfl 2 (by decide) (hts (.fieldLink R_O 7 "PartShelvesModel" "rowAges" "[I") (by decide +kernel)) (fun _ h9 => h9) rfl d_O_row_57 ?_
            refine lv_aload_n hx hb d_O_row_60 rfl (lv_at hl 0 rfl) ?_
            refine fv_get (ci := 7) (v := .int (nI rn)) (C := R_O) (T := F_O) (N := 36) hx hb hts (by decide +kernel) hown hK hP 0 0 rfl rfl rfl 1 (by decide) (hts (.fieldLink R_O 97 "PartShelvesModel" "rows" "I") (by decide +kernel)) (fun _ h9 => h9) rfl d_O_row_61 ?_
            refine lv_iload_n hx hb d_O_row_64 rfl (lv_at hl 1 rfl) ?_
            refine fa_iastN hx hb hK hP hD hS 0 1 0 rfl rfl rfl (by omega) (by decide) d_O_row_65 (fun H locs hP hD hS => ?_)
            have hP : va_P D cls (fl [(wO kC ad td rn pn an jn tn bm fw gp ga bp fc fj (updN rA rn j) rC ft kd aG sR sT wh dY pd cN mN sv nd wr tl lt lT lD gv gn od br)]) H := hP
            have hD : va_D A (fl [(wO kC ad td rn pn an jn tn bm fw gp ga bp fc fj (updN rA rn j) rC ft kd aG sR sT wh dY pd cN mN sv nd wr tl lt lT lD gv gn od br)]) := hD
            refine lv_aload_n hx hb d_O_row_66 rfl (lv_at hl 0 rfl) ?_
            refine fv_get (ci := 7) (v := .ref (ad 2)) (C := R_O) (T := F_O) (N := 36) hx hb hts (by decide +kernel) hown hK hP 0 0 rfl rfl rfl 3 (by decide) (hts (.fieldLink R_O 13 "PartShelvesModel" "rowCents" "[J") (by decide +kernel)) (fun _ h9 => h9) rfl d_O_row_67 ?_
            refine lv_aload_n hx hb d_O_row_70 rfl (lv_at hl 0 rfl) ?_
            refine fv_get (ci := 7) (v := .int (nI rn)) (C := R_O) (T := F_O) (N := 36) hx hb hts (by decide +kernel) hown hK hP 0 0 rfl rfl rfl 1 (by decide) (hts (.fieldLink R_O 97 "PartShelvesModel" "rows" "I") (by decide +kernel)) (fun _ h9 => h9) rfl d_O_row_71 ?_
            refine lv_lload_n hx hb d_O_row_74 rfl (lv_at hl 2 rfl) ?_
            refine fa_lastN hx hb hK hP hD hS 0 2 1 rfl rfl rfl (by omega) (by decide) d_O_row_75 (fun H locs hP hD hS => ?_)
            have hP : va_P D cls (fl [(wO kC ad td rn pn an jn tn bm fw gp ga bp fc fj (updN rA rn j) (updN rC rn k) ft kd aG sR sT wh dY pd cN mN sv nd wr tl lt lT lD gv gn od br)]) H := hP
            have hD : va_D A (fl [(wO kC ad td rn pn an jn tn bm fw gp ga bp fc fj (updN rA rn j) (updN rC rn k) ft kd aG sR sT wh dY pd cN mN sv nd wr tl lt lT lD gv gn od br)]) := hD
            refine lv_aload_n hx hb d_O_row_76 rfl (lv_at hl 0 rfl) ?_
            refine lv_dup hx hb d_O_row_77 rfl ?_
            refine fv_get (ci := 7) (v := .int (nI rn)) (C := R_O) (T := F_O) (N := 36) hx hb hts (by decide +kernel) hown hK hP 0 0 rfl rfl rfl 1 (by decide) (hts (.fieldLink R_O 97 "PartShelvesModel" "rows" "I") (by decide +kernel)) (fun _ h9 => h9) rfl d_O_row_78 ?_
            refine lv_iconst (v := nI 1) hx hb d_O_row_81 (by decide) ?_
            refine nv_iadd hx hb d_O_row_82 ?_
            refine fv_put (ci := 7) (v := .int (nI (rn + 1))) (ty := (.int)) (C := R_O) (T := F_O) (N := 36) hx hb hts (by decide +kernel) t_O t_O_ok n_O hown hK hP hD hS 0 0 rfl rfl rfl 1 (by decide) (hts (.fieldLink R_O 97 "PartShelvesModel" "rows" "I") (by decide +kernel)) (fun _ h9 => h9) rfl (by decide +kernel) (rfl) (rfl) (Nat.le_of_ble_eq_true rfl) d_O_row_83 (fun H locs hP hD hS => ?_)
            have hP : va_P D cls (fl [(wO kC ad td (rn + 1) pn an jn tn bm fw gp ga bp fc fj (updN rA rn j) (updN rC rn k) ft kd aG sR sT wh dY pd cN mN sv nd wr tl lt lT lD gv gn od br)]) H := hP
            have hD : va_D A (fl [(wO kC ad td (rn + 1) pn an jn tn bm fw gp ga bp fc fj (updN rA rn j) (updN rC rn k) ft kd aG sR sT wh dY pd cN mN sv nd wr tl lt lT lD gv gn od br)]) := hD
            refine lv_iconst (v := nI 1) hx hb d_O_row_86 (by decide) ?_
            have ew13 : (updN rA rn j) = (if (rn < 6 ∧ inI 0 1000 (nI j) ∧ inL 0 100000 (lN k) ∧ (rn = 0 ∨ rA (rn - 1) < nOf (nI j))) then updN rA rn (nOf (nI j)) else rA) := by rw [if_pos hC, nOf_nI (by omega)]
            have hP : va_P D cls (fl [(wO kC ad td (rn + 1) pn an jn tn bm fw gp ga bp fc fj (if (rn < 6 ∧ inI 0 1000 (nI j) ∧ inL 0 100000 (lN k) ∧ (rn = 0 ∨ rA (rn - 1) < nOf (nI j))) then updN rA rn (nOf (nI j)) else rA) (updN rC rn k) ft kd aG sR sT wh dY pd cN mN sv nd wr tl lt lT lD gv gn od br)]) H := by rw [← ew13]; exact hP
            have hD : va_D A (fl [(wO kC ad td (rn + 1) pn an jn tn bm fw gp ga bp fc fj (if (rn < 6 ∧ inI 0 1000 (nI j) ∧ inL 0 100000 (lN k) ∧ (rn = 0 ∨ rA (rn - 1) < nOf (nI j))) then updN rA rn (nOf (nI j)) else rA) (updN rC rn k) ft kd aG sR sT wh dY pd cN mN sv nd wr tl lt lT lD gv gn od br)]) := by rw [← ew13]; exact hD
            have ew14 : (updN rC rn k) = (if (rn < 6 ∧ inI 0 1000 (nI j) ∧ inL 0 100000 (lN k) ∧ (rn = 0 ∨ rA (rn - 1) < nOf (nI j))) then updN rC rn (nOfL (lN k)) else rC) := by rw [if_pos hC, nOfL_lN (by omega)]
            have hP : va_P D cls (fl [(wO kC ad td (rn + 1) pn an jn tn bm fw gp ga bp fc fj (if (rn < 6 ∧ inI 0 1000 (nI j) ∧ inL 0 100000 (lN k) ∧ (rn = 0 ∨ rA (rn - 1) < nOf (nI j))) then updN rA rn (nOf (nI j)) else rA) (if (rn < 6 ∧ inI 0 1000 (nI j) ∧ inL 0 100000 (lN k) ∧ (rn = 0 ∨ rA (rn - 1) < nOf (nI j))) then updN rC rn (nOfL (lN k)) else rC) ft kd aG sR sT wh dY pd cN mN sv nd wr tl lt lT lD gv gn od br)]) H := by rw [← ew14]; exact hP
            have hD : va_D A (fl [(wO kC ad td (rn + 1) pn an jn tn bm fw gp ga bp fc fj (if (rn < 6 ∧ inI 0 1000 (nI j) ∧ inL 0 100000 (lN k) ∧ (rn = 0 ∨ rA (rn - 1) < nOf (nI j))) then updN rA rn (nOf (nI j)) else rA) (if (rn < 6 ∧ inI 0 1000 (nI j) ∧ inL 0 100000 (lN k) ∧ (rn = 0 ∨ rA (rn - 1) < nOf (nI j))) then updN rC rn (nOfL (lN k)) else rC) ft kd aG sR sT wh dY pd cN mN sv nd wr tl lt lT lD gv gn od br)]) := by rw [← ew14]; exact hD
            have ew15 : (rn + 1) = (if (rn < 6 ∧ inI 0 1000 (nI j) ∧ inL 0 100000 (lN k) ∧ (rn = 0 ∨ rA (rn - 1) < nOf (nI j))) then rn + 1 else rn) := by rw [if_pos hC]
            have hP : va_P D cls (fl [(wO kC ad td (if (rn < 6 ∧ inI 0 1000 (nI j) ∧ inL 0 100000 (lN k) ∧ (rn = 0 ∨ rA (rn - 1) < nOf (nI j))) then rn + 1 else rn) pn an jn tn bm fw gp ga bp fc fj (if (rn < 6 ∧ inI 0 1000 (nI j) ∧ inL 0 100000 (lN k) ∧ (rn = 0 ∨ rA (rn - 1) < nOf (nI j))) then updN rA rn (nOf (nI j)) else rA) (if (rn < 6 ∧ inI 0 1000 (nI j) ∧ inL 0 100000 (lN k) ∧ (rn = 0 ∨ rA (rn - 1) < nOf (nI j))) then updN rC rn (nOfL (lN k)) else rC) ft kd aG sR sT wh dY pd cN mN sv nd wr tl lt lT lD gv gn od br)]) H := by rw [← ew15]; exact hP
            have hD : va_D A (fl [(wO kC ad td (if (rn < 6 ∧ inI 0 1000 (nI j) ∧ inL 0 100000 (lN k) ∧ (rn = 0 ∨ rA (rn - 1) < nOf (nI j))) then rn + 1 else rn) pn an jn tn bm fw gp ga bp fc fj (if (rn < 6 ∧ inI 0 1000 (nI j) ∧ inL 0 100000 (lN k) ∧ (rn = 0 ∨ rA (rn - 1) < nOf (nI j))) then updN rA rn (nOf (nI j)) else rA) (if (rn < 6 ∧ inI 0 1000 (nI j) ∧ inL 0 100000 (lN k) ∧ (rn = 0 ∨ rA (rn - 1) < nOf (nI j))) then updN rC rn (nOfL (lN k)) else rC) ft kd aG sR sT wh dY pd cN mN sv nd wr tl lt lT lD gv gn od br)]) := by rw [← ew15]; exact hD
            exact W.zret (v := nI 1) hx hb hr (nar_b (by first | exact Or.inl rfl | exact Or.inr rfl | exact bI_01)) (fun t ht hW => by subst hAe; exact ⟨⟨(nI 1), (), rfl, (bI_t hC).symm, by rw [ht]; exact hP, va_K.moved hW.alike hK, hD⟩, hS.F ht⟩) (by subst hAe; exact hS.2.2) d_O_row_87
          · have hC : ¬ (rn < 6 ∧ inI 0 1000 (nI j) ∧ inL 0 100000 (lN k) ∧ (rn = 0 ∨ rA (rn - 1) < nOf (nI j))) := fun q => by first | (have := q.1; omega) | exact absurd (inL_i.mpr q.2.1) (bI_0.mp h2) | exact absurd q.2.2.1 (bI_0.mp h3) | (rcases q.2.2.2 with q4 | q4; omega; rw [nOf_nI (by omega)] at q4; omega)
            refine lv_iconst (v := nI 0) hx hb d_O_row_54 (by decide) ?_
            have ew16 : rA = (if (rn < 6 ∧ inI 0 1000 (nI j) ∧ inL 0 100000 (lN k) ∧ (rn = 0 ∨ rA (rn - 1) < nOf (nI j))) then updN rA rn (nOf (nI j)) else rA) := (if_neg hC).symm
            have hP : va_P D cls (fl [(wO kC ad td rn pn an jn tn bm fw gp ga bp fc fj (if (rn < 6 ∧ inI 0 1000 (nI j) ∧ inL 0 100000 (lN k) ∧ (rn = 0 ∨ rA (rn - 1) < nOf (nI j))) then updN rA rn (nOf (nI j)) else rA) rC ft kd aG sR sT wh dY pd cN mN sv nd wr tl lt lT lD gv gn od br)]) s.heap := by rw [← ew16]; exact hP
            have hD : va_D A (fl [(wO kC ad td rn pn an jn tn bm fw gp ga bp fc fj (if (rn < 6 ∧ inI 0 1000 (nI j) ∧ inL 0 100000 (lN k) ∧ (rn = 0 ∨ rA (rn - 1) < nOf (nI j))) then updN rA rn (nOf (nI j)) else rA) rC ft kd aG sR sT wh dY pd cN mN sv nd wr tl lt lT lD gv gn od br)]) := by rw [← ew16]; exact hD
            have ew17 : rC = (if (rn < 6 ∧ inI 0 1000 (nI j) ∧ inL 0 100000 (lN k) ∧ (rn = 0 ∨ rA (rn - 1) < nOf (nI j))) then updN rC rn (nOfL (lN k)) else rC) := (if_neg hC).symm
            have hP : va_P D cls (fl [(wO kC ad td rn pn an jn tn bm fw gp ga bp fc fj (if (rn < 6 ∧ inI 0 1000 (nI j) ∧ inL 0 100000 (lN k) ∧ (rn = 0 ∨ rA (rn - 1) < nOf (nI j))) then updN rA rn (nOf (nI j)) else rA) (if (rn < 6 ∧ inI 0 1000 (nI j) ∧ inL 0 100000 (lN k) ∧ (rn = 0 ∨ rA (rn - 1) < nOf (nI j))) then updN rC rn (nOfL (lN k)) else rC) ft kd aG sR sT wh dY pd cN mN sv nd wr tl lt lT lD gv gn od br)]) s.heap := by rw [← ew17]; exact hP
            have hD : va_D A (fl [(wO kC ad td rn pn an jn tn bm fw gp ga bp fc fj (if (rn < 6 ∧ inI 0 1000 (nI j) ∧ inL 0 100000 (lN k) ∧ (rn = 0 ∨ rA (rn - 1) < nOf (nI j))) then updN rA rn (nOf (nI j)) else rA) (if (rn < 6 ∧ inI 0 1000 (nI j) ∧ inL 0 100000 (lN k) ∧ (rn = 0 ∨ rA (rn - 1) < nOf (nI j))) then updN rC rn (nOfL (lN k)) else rC) ft kd aG sR sT wh dY pd cN mN sv nd wr tl lt lT lD gv gn od br)]) := by rw [← ew17]; exact hD
            have ew18 : rn = (if (rn < 6 ∧ inI 0 1000 (nI j) ∧ inL 0 100000 (lN k) ∧ (rn = 0 ∨ rA (rn - 1) < nOf (nI j))) then rn + 1 else rn) := (if_neg hC).symm
            have hP : va_P D cls (fl [(wO kC ad td (if (rn < 6 ∧ inI 0 1000 (nI j) ∧ inL 0 100000 (lN k) ∧ (rn = 0 ∨ rA (rn - 1) < nOf (nI j))) then rn + 1 else rn) pn an jn tn bm fw gp ga bp fc fj (if (rn < 6 ∧ inI 0 1000 (nI j) ∧ inL 0 100000 (lN k) ∧ (rn = 0 ∨ rA (rn - 1) < nOf (nI j))) then updN rA rn (nOf (nI j)) else rA) (if (rn < 6 ∧ inI 0 1000 (nI j) ∧ inL 0 100000 (lN k) ∧ (rn = 0 ∨ rA (rn - 1) < nOf (nI j))) then updN rC rn (nOfL (lN k)) else rC) ft kd aG sR sT wh dY pd cN mN sv nd wr tl lt lT lD gv gn od br)]) s.heap := by rw [← ew18]; exact hP
            have hD : va_D A (fl [(wO kC ad td (if (rn < 6 ∧ inI 0 1000 (nI j) ∧ inL 0 100000 (lN k) ∧ (rn = 0 ∨ rA (rn - 1) < nOf (nI j))) then rn + 1 else rn) pn an jn tn bm fw gp ga bp fc fj (if (rn < 6 ∧ inI 0 1000 (nI j) ∧ inL 0 100000 (lN k) ∧ (rn = 0 ∨ rA (rn - 1) < nOf (nI j))) then updN rA rn (nOf (nI j)) else rA) (if (rn < 6 ∧ inI 0 1000 (nI j) ∧ inL 0 100000 (lN k) ∧ (rn = 0 ∨ rA (rn - 1) < nOf (nI j))) then updN rC rn (nOfL (lN k)) else rC) ft kd aG sR sT wh dY pd cN mN sv nd wr tl lt lT lD gv gn od br)]) := by rw [← ew18]; exact hD
            exact W.zret (v := nI 0) hx hb hr (nar_b (by first | exact Or.inl rfl | exact Or.inr rfl | exact bI_01)) (fun t ht hW => by subst hAe; exact ⟨⟨(nI 0), (), rfl, (bI_f hC).symm, by rw [ht]; exact hP, va_K.moved hW.alike hK, hD⟩, hS.F ht⟩) (by subst hAe; exact hS.2.2) d_O_row_55

abbrev b_O_fits : ByteArray := prog_9_method_10_code
def y_O_fits : MethodName := ⟨"PartShelvesModel", "fits", "(IIZ)Z"⟩
theorem d_O_fits_0 : decode b_O_fits 0 = .ok (.iload_n 1, 1) := by decide +kernel
theorem d_O_fits_1 : decode b_O_fits 1 = .ok (.invokestatic 102, 3) := by decide +kernel
theorem d_O_fits_4 : decode b_O_fits 4 = .ok (.ifCond .eq 10, 3) := by decide +kernel
theorem d_O_fits_7 : decode b_O_fits 7 = .ok (.iload_n 2, 1) := by decide +kernel
theorem d_O_fits_8 : decode b_O_fits 8 = .ok (.invokestatic 102, 3) := by decide +kernel
theorem d_O_fits_11 : decode b_O_fits 11 = .ok (.ifCond .ne 5, 3) := by decide +kernel
theorem d_O_fits_14 : decode b_O_fits 14 = .ok (.iconst 0, 1) := by decide +kernel
theorem d_O_fits_15 : decode b_O_fits 15 = .ok (.ireturn, 1) := by decide +kernel
theorem d_O_fits_16 : decode b_O_fits 16 = .ok (.aload_n 0, 1) := by decide +kernel
theorem d_O_fits_17 : decode b_O_fits 17 = .ok (.getfield 17, 3) := by decide +kernel
theorem d_O_fits_20 : decode b_O_fits 20 = .ok (.bipush 6, 2) := by decide +kernel
theorem d_O_fits_22 : decode b_O_fits 22 = .ok (.iload_n 1, 1) := by decide +kernel
theorem d_O_fits_23 : decode b_O_fits 23 = .ok (.imul, 1) := by decide +kernel
theorem d_O_fits_24 : decode b_O_fits 24 = .ok (.iload_n 2, 1) := by decide +kernel
theorem d_O_fits_25 : decode b_O_fits 25 = .ok (.iadd, 1) := by decide +kernel
theorem d_O_fits_26 : decode b_O_fits 26 = .ok (.iload_n 3, 1) := by decide +kernel
theorem d_O_fits_27 : decode b_O_fits 27 = .ok (.bastore, 1) := by decide +kernel
theorem d_O_fits_28 : decode b_O_fits 28 = .ok (.iconst 1, 1) := by decide +kernel
theorem d_O_fits_29 : decode b_O_fits 29 = .ok (.ireturn, 1) := by decide +kernel
def w_O_fits : List Cond := .code y_O_fits b_O_fits 4 (some .boolean) :: ([.methodLink "PartShelvesModel" 102 ⟨"PartShelvesModel", "isKind", "(I)Z"⟩, .static ⟨"PartShelvesModel", "isKind", "(I)Z"⟩, .initialized "PartShelvesModel", .code ⟨"PartShelvesModel", "isKind", "(I)Z"⟩ prog_9_method_4_code 1 (some .boolean), .fieldLink "PartShelvesModel" 17 "PartShelvesModel" "fits" "[Z"] ++ u_ws R_O F_O 36)
set_option maxRecDepth 20000 in
theorem g_O_fits_isKind : GoodIn w_O_fits (wsS R_O 102 y_O_isKind w_O_isKind) := goodIn_p _ [4] rfl (by decide +kernel)
set_option maxHeartbeats 4000000 in
set_option maxRecDepth 100000 in
theorem c_O_fits (l : Launch) (D : va_G) (kC : Nat → ClassId) (ad : Nat → Nat) (td : Nat) (rn : Nat) (pn : Nat) (an : Nat) (jn : Nat) (tn : Nat) (bm : Int32) (fw : Int64) (gp : Nat) (ga : Nat) (bp : Int32) (fc : Int64) (fj : Nat) (rA : Nat → Nat) (rC : Nat → Nat) (ft : Nat → Int32) (kd : Nat → Nat) (aG : Nat → Nat) (sR : Nat → Nat) (sT : Nat → Nat) (wh : Nat → Nat) (dY : Nat → Nat) (pd : Nat → Nat) (cN : Nat → Nat) (mN : Nat → Nat) (sv : Nat → Int32) (nd : Nat → Nat) (wr : Nat → Nat) (tl : Nat → Nat) (lt : Nat → Int32) (lT : Nat → Nat) (lD : Nat → Nat) (gv : Nat → Int32) (gn : Nat → Int64) (od : Nat → Nat) (br : Nat → Nat) (x : Int32) (y : Int32) (b : Int32) (sz : Nat) (hb01 : b = 0 ∨ b = 1) : Met l y_O_fits w_O_fits ({ frames := 1, cells := 0, slots := 0, locals := 20 } : Room) (gPre cls D (tyL kC) [.ref (ad 0), .int x, .int y, .int b] (fl [(wO kC ad td rn pn an jn tn bm fw gp ga bp fc fj rA rC ft kd aG sR sT wh dY pd cN mN sv nd wr tl lt lT lD gv gn od br)]) sz) (gQi cls D (tyL kC) (fl [(wO kC ad td rn pn an jn tn bm fw gp ga bp fc fj rA rC ft kd aG sR sT wh dY pd cN mN sv nd wr tl lt lT lD gv gn od br)]) sz (bI (inR x 6 ∧ inR y 6)) (fl [(wO kC ad td rn pn an jn tn bm fw gp ga bp fc fj rA rC (if (inR x 6 ∧ inR y 6) then upd ft (6 * nOf x + nOf y) b else ft) kd aG sR sT wh dY pd cN mN sv nd wr tl lt lT lD gv gn od br)])) 0 0 (va_A (fl [(wO kC ad td rn pn an jn tn bm fw gp ga bp fc fj rA rC ft kd aG sR sT wh dY pd cN mN sv nd wr tl lt lT lD gv gn od br)]) sz) := by
  refine Met.ofW (cc := b_O_fits) (maxL := 4) (ret := (some .boolean)) (by decide) rfl ?_
  intro p e s m args below meth c s₁ B hml hv
  obtain ⟨rfl, hsz, hP, hK, hD0⟩ := hv
  have hx := B.exec
  have hb := B.bytes
  have hr := B.returns
  have hts := atoms_spec (ws := w_O_fits) B.pre
  have hown : s.vm.findClass R_O = some m.cls := findClass_of_methodNamed B.named
  have hlocks := B.notSynchronized
  subst hsz
  obtain ⟨A, hAe⟩ : ∃ A : Nat → Prop, A = va_A (fl [(wO kC ad td rn pn an jn tn bm fw gp ga bp fc fj rA rC ft kd aG sR sT wh dY pd cN mN sv nd wr tl lt lT lD gv gn od br)]) s.heap.size := ⟨_, rfl⟩
  have hD : va_D A (fl [(wO kC ad td rn pn an jn tn bm fw gp ga bp fc fj rA rC ft kd aG sR sT wh dY pd cN mN sv nd wr tl lt lT lD gv gn od br)]) := by rw [hAe]; exact hD0.self
  have hA : ∀ q : Nat, s.heap.size ≤ q → A q := fun q h => by rw [hAe]; exact Or.inr h
  have hS : va_S A s.heap s.heap [] := va_S.rf
  have hl := lv_entry ([.ref (ad 0), .int x, .int y, .int b]) (n := 4) (Nat.le_of_ble_eq_true rfl)
  rw [lg_entry_eq]
  generalize (lg_sl ([.ref (ad 0), .int x, .int y, .int b]) ++ List.replicate (4 - (lg_sl ([.ref (ad 0), .int x, .int y, .int b])).length) Slot.unset).toArray = ls at hl ⊢
  have hl : lv_has ls 4 [(0, .ref (ad 0)), (1, .int x), (2, .int y), (3, .int b)] := hl
  refine lv_iload_n hx hb d_O_fits_0 rfl (lv_at hl 1 rfl) ?_
  refine r_calli (W.runS (As := [.int x]) (rest := []) ⟨hx, hb, hml, hown, hts⟩ (c_O_isKind l x) (cwS 1 hts g_O_fits_isKind rfl rfl rfl (by decide +kernel) ⟨Nat.le_of_ble_eq_true rfl, Nat.le_of_ble_eq_true rfl⟩) p0_preS rfl rfl hl.1 rfl (lv_room (Nat.le_of_ble_eq_true rfl)) d_O_fits_1 ⟨Nat.le_of_ble_eq_true rfl, Nat.le_of_ble_eq_true rfl⟩) ?_
  refine lv_if_eq (tgt := 14) hx hb d_O_fits_4 (by decide) (fun h1 => ?_) (fun h1 => ?_)
  · have hC : ¬ (inR x 6 ∧ inR y 6) := fun q => by first | exact absurd q.2 (bI_0.mp h2) | exact absurd q.1 (bI_0.mp h1)
    refine lv_iconst (v := nI 0) hx hb d_O_fits_14 (by decide) ?_
    have ew1 : ft = (if (inR x 6 ∧ inR y 6) then upd ft (6 * nOf x + nOf y) b else ft) := (if_neg hC).symm
    have hP : va_P D cls (fl [(wO kC ad td rn pn an jn tn bm fw gp ga bp fc fj rA rC (if (inR x 6 ∧ inR y 6) then upd ft (6 * nOf x + nOf y) b else ft) kd aG sR sT wh dY pd cN mN sv nd wr tl lt lT lD gv gn od br)]) s.heap := by rw [← ew1]; exact hP
    have hD : va_D A (fl [(wO kC ad td rn pn an jn tn bm fw gp ga bp fc fj rA rC (if (inR x 6 ∧ inR y 6) then upd ft (6 * nOf x + nOf y) b else ft) kd aG sR sT wh dY pd cN mN sv nd wr tl lt lT lD gv gn od br)]) := by rw [← ew1]; exact hD
    exact W.zret (v := nI 0) hx hb hr (nar_b (by first | exact Or.inl rfl | exact Or.inr rfl | exact bI_01)) (fun t ht hW => by subst hAe; exact ⟨⟨(nI 0), (), rfl, (bI_f hC).symm, by rw [ht]; exact hP, va_K.moved hW.alike hK, hD⟩, hS.F ht⟩) (by subst hAe; exact hS.2.2) d_O_fits_15
  · refine lv_iload_n hx hb d_O_fits_7 rfl (lv_at hl 2 rfl) ?_
    refine r_calli (W.runS (As := [.int y]) (rest := []) ⟨hx, hb, hml, hown, hts⟩ (c_O_isKind l y) (cwS 1 hts g_O_fits_isKind rfl rfl rfl (by decide +kernel) ⟨Nat.le_of_ble_eq_true rfl, Nat.le_of_ble_eq_true rfl⟩) p0_preS rfl rfl hl.1 rfl (lv_room (Nat.le_of_ble_eq_true rfl)) d_O_fits_8 ⟨Nat.le_of_ble_eq_true rfl, Nat.le_of_ble_eq_true rfl⟩) ?_
    refine lv_if_ne (tgt := 16) hx hb d_O_fits_11 (by decide) (fun h2 => ?_) (fun h2 => ?_)
    · have h1 := bI_n0.mp h1
      have h2 := bI_n0.mp h2
      have hC : inR x 6 ∧ inR y 6 := ⟨h1, h2⟩
      obtain ⟨j, hj, rfl⟩ := inR_n (by decide) h1
      obtain ⟨k, hk, rfl⟩ := inR_n (by decide) h2
      refine lv_aload_n hx hb d_O_fits_16 rfl (lv_at hl 0 rfl) ?_
      refine fv_get (ci := 7) (v := .ref (ad 3)) (C := R_O) (T := F_O) (N := 36) hx hb hts (by decide +kernel) hown hK hP 0 0 rfl rfl rfl 4 (by decide) (hts (.fieldLink R_O 17 "PartShelvesModel" "fits" "[Z") (by decide +kernel)) (fun _ h9 => h9) rfl d_O_fits_17 ?_
      refine lv_bipush (v := nI 6) hx hb d_O_fits_20 (by decide +kernel) ?_
      refine lv_iload_n hx hb d_O_fits_22 rfl (lv_at hl 1 rfl) ?_
      refine nv_imul hx hb d_O_fits_23 ?_
      refine lv_iload_n hx hb d_O_fits_24 rfl (lv_at hl 2 rfl) ?_
      refine nv_iadd hx hb d_O_fits_25 ?_
      refine lv_iload_n hx hb d_O_fits_26 rfl (lv_at hl 3 rfl) ?_
      refine fa_zast hx hb hK hP hD hS 0 3 2 rfl rfl rfl (hb01) (by omega) (by decide) d_O_fits_27 (fun H locs hP hD hS => ?_)
      have hP : va_P D cls (fl [(wO kC ad td rn pn an jn tn bm fw gp ga bp fc fj rA rC (upd ft (6 * j + k) b) kd aG sR sT wh dY pd cN mN sv nd wr tl lt lT lD gv gn od br)]) H := hP
      have hD : va_D A (fl [(wO kC ad td rn pn an jn tn bm fw gp ga bp fc fj rA rC (upd ft (6 * j + k) b) kd aG sR sT wh dY pd cN mN sv nd wr tl lt lT lD gv gn od br)]) := hD
      refine lv_iconst (v := nI 1) hx hb d_O_fits_28 (by decide) ?_
      have ew2 : (upd ft (6 * j + k) b) = (if (inR (nI j) 6 ∧ inR (nI k) 6) then upd ft (6 * nOf (nI j) + nOf (nI k)) b else ft) := by rw [if_pos hC, nOf_nI (by omega), nOf_nI (by omega)]
      have hP : va_P D cls (fl [(wO kC ad td rn pn an jn tn bm fw gp ga bp fc fj rA rC (if (inR (nI j) 6 ∧ inR (nI k) 6) then upd ft (6 * nOf (nI j) + nOf (nI k)) b else ft) kd aG sR sT wh dY pd cN mN sv nd wr tl lt lT lD gv gn od br)]) H := by rw [← ew2]; exact hP
      have hD : va_D A (fl [(wO kC ad td rn pn an jn tn bm fw gp ga bp fc fj rA rC (if (inR (nI j) 6 ∧ inR (nI k) 6) then upd ft (6 * nOf (nI j) + nOf (nI k)) b else ft) kd aG sR sT wh dY pd cN mN sv nd wr tl lt lT lD gv gn od br)]) := by rw [← ew2]; exact hD
      exact W.zret (v := nI 1) hx hb hr (nar_b (by first | exact Or.inl rfl | exact Or.inr rfl | exact bI_01)) (fun t ht hW => by subst hAe; exact ⟨⟨(nI 1), (), rfl, (bI_t hC).symm, by rw [ht]; exact hP, va_K.moved hW.alike hK, hD⟩, hS.F ht⟩) (by subst hAe; exact hS.2.2) d_O_fits_29
    · have hC : ¬ (inR x 6 ∧ inR y 6) := fun q => by first | exact absurd q.2 (bI_0.mp h2) | exact absurd q.1 (bI_0.mp h1)
      refine lv_iconst (v := nI 0) hx hb d_O_fits_14 (by decide) ?_
      have ew3 : ft = (if (inR x 6 ∧ inR y 6) then upd ft (6 * nOf x + nOf y) b else ft) := (if_neg hC).symm
      have hP : va_P D cls (fl [(wO kC ad td rn pn an jn tn bm fw gp ga bp fc fj rA rC (if (inR x 6 ∧ inR y 6) then upd ft (6 * nOf x + nOf y) b else ft) kd aG sR sT wh dY pd cN mN sv nd wr tl lt lT lD gv gn od br)]) s.heap := by rw [← ew3]; exact hP
      have hD : va_D A (fl [(wO kC ad td rn pn an jn tn bm fw gp ga bp fc fj rA rC (if (inR x 6 ∧ inR y 6) then upd ft (6 * nOf x + nOf y) b else ft) kd aG sR sT wh dY pd cN mN sv nd wr tl lt lT lD gv gn od br)]) := by rw [← ew3]; exact hD
      exact W.zret (v := nI 0) hx hb hr (nar_b (by first | exact Or.inl rfl | exact Or.inr rfl | exact bI_01)) (fun t ht hW => by subst hAe; exact ⟨⟨(nI 0), (), rfl, (bI_f hC).symm, by rw [ht]; exact hP, va_K.moved hW.alike hK, hD⟩, hS.F ht⟩) (by subst hAe; exact hS.2.2) d_O_fits_15

abbrev b_O_part : ByteArray := prog_9_method_11_code
def y_O_part : MethodName := ⟨"PartShelvesModel", "part", "(IIJ)I"⟩
theorem d_O_part_0 : decode b_O_part 0 = .ok (.aload_n 0, 1) := by decide +kernel
theorem d_O_part_1 : decode b_O_part 1 = .ok (.getfield 81, 3) := by decide +kernel
theorem d_O_part_4 : decode b_O_part 4 = .ok (.bipush 8, 2) := by decide +kernel
theorem d_O_part_6 : decode b_O_part 6 = .ok (.if_icmp .eq 33, 3) := by decide +kernel
theorem d_O_part_9 : decode b_O_part 9 = .ok (.iload_n 1, 1) := by decide +kernel
theorem d_O_part_10 : decode b_O_part 10 = .ok (.invokestatic 102, 3) := by decide +kernel
theorem d_O_part_13 : decode b_O_part 13 = .ok (.ifCond .eq 26, 3) := by decide +kernel
theorem d_O_part_16 : decode b_O_part 16 = .ok (.iload_n 2, 1) := by decide +kernel
theorem d_O_part_17 : decode b_O_part 17 = .ok (.i2l, 1) := by decide +kernel
theorem d_O_part_18 : decode b_O_part 18 = .ok (.lconst 0, 1) := by decide +kernel
theorem d_O_part_19 : decode b_O_part 19 = .ok (.ldc2_w 100, 3) := by decide +kernel
theorem d_O_part_22 : decode b_O_part 22 = .ok (.invokestatic 93, 3) := by decide +kernel
theorem d_O_part_25 : decode b_O_part 25 = .ok (.ifCond .eq 14, 3) := by decide +kernel
theorem d_O_part_28 : decode b_O_part 28 = .ok (.lload_n 3, 1) := by decide +kernel
theorem d_O_part_29 : decode b_O_part 29 = .ok (.lconst 0, 1) := by decide +kernel
theorem d_O_part_30 : decode b_O_part 30 = .ok (.ldc2_w 106, 3) := by decide +kernel
theorem d_O_part_33 : decode b_O_part 33 = .ok (.invokestatic 93, 3) := by decide +kernel
theorem d_O_part_36 : decode b_O_part 36 = .ok (.ifCond .ne 5, 3) := by decide +kernel
theorem d_O_part_39 : decode b_O_part 39 = .ok (.iconst (-1), 1) := by decide +kernel
theorem d_O_part_40 : decode b_O_part 40 = .ok (.ireturn, 1) := by decide +kernel
theorem d_O_part_41 : decode b_O_part 41 = .ok (.aload_n 0, 1) := by decide +kernel
theorem d_O_part_42 : decode b_O_part 42 = .ok (.getfield 21, 3) := by decide +kernel
theorem d_O_part_45 : decode b_O_part 45 = .ok (.aload_n 0, 1) := by decide +kernel
theorem d_O_part_46 : decode b_O_part 46 = .ok (.getfield 81, 3) := by decide +kernel
theorem d_O_part_49 : decode b_O_part 49 = .ok (.iload_n 1, 1) := by decide +kernel
theorem d_O_part_50 : decode b_O_part 50 = .ok (.iastore, 1) := by decide +kernel
theorem d_O_part_51 : decode b_O_part 51 = .ok (.aload_n 0, 1) := by decide +kernel
theorem d_O_part_52 : decode b_O_part 52 = .ok (.getfield 24, 3) := by decide +kernel
theorem d_O_part_55 : decode b_O_part 55 = .ok (.aload_n 0, 1) := by decide +kernel
theorem d_O_part_56 : decode b_O_part 56 = .ok (.getfield 81, 3) := by decide +kernel
theorem d_O_part_59 : decode b_O_part 59 = .ok (.iload_n 2, 1) := by decide +kernel
theorem d_O_part_60 : decode b_O_part 60 = .ok (.iastore, 1) := by decide +kernel
theorem d_O_part_61 : decode b_O_part 61 = .ok (.aload_n 0, 1) := by decide +kernel
theorem d_O_part_62 : decode b_O_part 62 = .ok (.getfield 27, 3) := by decide +kernel
theorem d_O_part_65 : decode b_O_part 65 = .ok (.aload_n 0, 1) := by decide +kernel
theorem d_O_part_66 : decode b_O_part 66 = .ok (.getfield 81, 3) := by decide +kernel
theorem d_O_part_69 : decode b_O_part 69 = .ok (.lload_n 3, 1) := by decide +kernel
theorem d_O_part_70 : decode b_O_part 70 = .ok (.lastore, 1) := by decide +kernel
theorem d_O_part_71 : decode b_O_part 71 = .ok (.aload_n 0, 1) := by decide +kernel
theorem d_O_part_72 : decode b_O_part 72 = .ok (.dup, 1) := by decide +kernel
theorem d_O_part_73 : decode b_O_part 73 = .ok (.getfield 81, 3) := by decide +kernel
theorem d_O_part_76 : decode b_O_part 76 = .ok (.iconst 1, 1) := by decide +kernel
theorem d_O_part_77 : decode b_O_part 77 = .ok (.iadd, 1) := by decide +kernel
theorem d_O_part_78 : decode b_O_part 78 = .ok (.putfield 81, 3) := by decide +kernel
theorem d_O_part_81 : decode b_O_part 81 = .ok (.aload_n 0, 1) := by decide +kernel
theorem d_O_part_82 : decode b_O_part 82 = .ok (.getfield 81, 3) := by decide +kernel
theorem d_O_part_85 : decode b_O_part 85 = .ok (.iconst 1, 1) := by decide +kernel
theorem d_O_part_86 : decode b_O_part 86 = .ok (.isub, 1) := by decide +kernel
theorem d_O_part_87 : decode b_O_part 87 = .ok (.ireturn, 1) := by decide +kernel
def w_O_part : List Cond := .code y_O_part b_O_part 5 (some .int) :: ([.fieldLink "PartShelvesModel" 81 "PartShelvesModel" "parts" "I", .methodLink "PartShelvesModel" 102 ⟨"PartShelvesModel", "isKind", "(I)Z"⟩, .static ⟨"PartShelvesModel", "isKind", "(I)Z"⟩, .initialized "PartShelvesModel", .code ⟨"PartShelvesModel", "isKind", "(I)Z"⟩ prog_9_method_4_code 1 (some .boolean), .constantLong "PartShelvesModel" 100 1000, .methodLink "PartShelvesModel" 93 ⟨"PartShelvesModel", "isIn", "(JJJ)Z"⟩, .static ⟨"PartShelvesModel", "isIn", "(JJJ)Z"⟩, .code ⟨"PartShelvesModel", "isIn", "(JJJ)Z"⟩ prog_9_method_3_code 6 (some .boolean), .constantLong "PartShelvesModel" 106 1000000000, .fieldLink "PartShelvesModel" 21 "PartShelvesModel" "kinds" "[I", .fieldLink "PartShelvesModel" 24 "PartShelvesModel" "ages" "[I", .fieldLink "PartShelvesModel" 27 "PartShelvesModel" "serials" "[J"] ++ u_ws R_O F_O 36)
set_option maxRecDepth 20000 in
theorem g_O_part_isKind : GoodIn w_O_part (wsS R_O 102 y_O_isKind w_O_isKind) := goodIn_p _ [5] rfl (by decide +kernel)
set_option maxRecDepth 20000 in
theorem g_O_part_isIn : GoodIn w_O_part (wsS R_O 93 y_O_isIn w_O_isIn) := goodIn_p _ [9] rfl (by decide +kernel)
set_option maxHeartbeats 4000000 in
set_option maxRecDepth 100000 in
theorem c_O_part (l : Launch) (D : va_G) (kC : Nat → ClassId) (ad : Nat → Nat) (td : Nat) (rn : Nat) (pn : Nat) (an : Nat) (jn : Nat) (tn : Nat) (bm : Int32) (fw : Int64) (gp : Nat) (ga : Nat) (bp : Int32) (fc : Int64) (fj : Nat) (rA : Nat → Nat) (rC : Nat → Nat) (ft : Nat → Int32) (kd : Nat → Nat) (aG : Nat → Nat) (sR : Nat → Nat) (sT : Nat → Nat) (wh : Nat → Nat) (dY : Nat → Nat) (pd : Nat → Nat) (cN : Nat → Nat) (mN : Nat → Nat) (sv : Nat → Int32) (nd : Nat → Nat) (wr : Nat → Nat) (tl : Nat → Nat) (lt : Nat → Int32) (lT : Nat → Nat) (lD : Nat → Nat) (gv : Nat → Int32) (gn : Nat → Int64) (od : Nat → Nat) (br : Nat → Nat) (x : Int32) (y : Int32) (v : Int64) (sz : Nat) (hpn : pn ≤ 8) : Met l y_O_part w_O_part ({ frames := 1, cells := 0, slots := 0, locals := 25 } : Room) (gPre cls D (tyL kC) [.ref (ad 0), .int x, .int y, .long v] (fl [(wO kC ad td rn pn an jn tn bm fw gp ga bp fc fj rA rC ft kd aG sR sT wh dY pd cN mN sv nd wr tl lt lT lD gv gn od br)]) sz) (gQi cls D (tyL kC) (fl [(wO kC ad td rn pn an jn tn bm fw gp ga bp fc fj rA rC ft kd aG sR sT wh dY pd cN mN sv nd wr tl lt lT lD gv gn od br)]) sz (if (pn < 8 ∧ inR x 6 ∧ inI 0 1000 y ∧ inL 0 1000000000 v) then nI pn else -1) (fl [(wO kC ad td rn (if (pn < 8 ∧ inR x 6 ∧ inI 0 1000 y ∧ inL 0 1000000000 v) then pn + 1 else pn) an jn tn bm fw gp ga bp fc fj rA rC ft (if (pn < 8 ∧ inR x 6 ∧ inI 0 1000 y ∧ inL 0 1000000000 v) then updN kd pn (nOf x) else kd) (if (pn < 8 ∧ inR x 6 ∧ inI 0 1000 y ∧ inL 0 1000000000 v) then updN aG pn (nOf y) else aG) (if (pn < 8 ∧ inR x 6 ∧ inI 0 1000 y ∧ inL 0 1000000000 v) then updN sR pn (nOfL v) else sR) sT wh dY pd cN mN sv nd wr tl lt lT lD gv gn od br)])) 0 0 (va_A (fl [(wO kC ad td rn pn an jn tn bm fw gp ga bp fc fj rA rC ft kd aG sR sT wh dY pd cN mN sv nd wr tl lt lT lD gv gn od br)]) sz) := by
  refine Met.ofW (cc := b_O_part) (maxL := 5) (ret := (some .int)) (by decide) rfl ?_
  intro p e s m args below meth c s₁ B hml hv
  obtain ⟨rfl, hsz, hP, hK, hD0⟩ := hv
  have hx := B.exec
  have hb := B.bytes
  have hr := B.returns
  have hts := atoms_spec (ws := w_O_part) B.pre
  have hown : s.vm.findClass R_O = some m.cls := findClass_of_methodNamed B.named
  have hlocks := B.notSynchronized
  subst hsz
  obtain ⟨A, hAe⟩ : ∃ A : Nat → Prop, A = va_A (fl [(wO kC ad td rn pn an jn tn bm fw gp ga bp fc fj rA rC ft kd aG sR sT wh dY pd cN mN sv nd wr tl lt lT lD gv gn od br)]) s.heap.size := ⟨_, rfl⟩
  have hD : va_D A (fl [(wO kC ad td rn pn an jn tn bm fw gp ga bp fc fj rA rC ft kd aG sR sT wh dY pd cN mN sv nd wr tl lt lT lD gv gn od br)]) := by rw [hAe]; exact hD0.self
  have hA : ∀ q : Nat, s.heap.size ≤ q → A q := fun q h => by rw [hAe]; exact Or.inr h
  have hS : va_S A s.heap s.heap [] := va_S.rf
  have hl := lv_entry ([.ref (ad 0), .int x, .int y, .long v]) (n := 5) (Nat.le_of_ble_eq_true rfl)
  rw [lg_entry_eq]
  generalize (lg_sl ([.ref (ad 0), .int x, .int y, .long v]) ++ List.replicate (5 - (lg_sl ([.ref (ad 0), .int x, .int y, .long v])).length) Slot.unset).toArray = ls at hl ⊢
  have hl : lv_has ls 5 [(0, .ref (ad 0)), (1, .int x), (2, .int y), (3, .long v)] := hl
  refine lv_aload_n hx hb d_O_part_0 rfl (lv_at hl 0 rfl) ?_
  refine fv_get (ci := 7) (v := .int (nI pn)) (C := R_O) (T := F_O) (N := 36) hx hb hts (by decide +kernel) hown hK hP 0 0 rfl rfl rfl 5 (by decide) (hts (.fieldLink R_O 81 "PartShelvesModel" "parts" "I") (by decide +kernel)) (fun _ h9 => h9) rfl d_O_part_1 ?_
  refine lv_bipush (v := nI 8) hx hb d_O_part_4 (by decide +kernel) ?_
  refine nv_icmp_eq (tgt := 39) hx hb d_O_part_6 (by decide) (by omega) (by omega) (fun h1 => ?_) (fun h1 => ?_)
  · have hC : ¬ (pn < 8 ∧ inR x 6 ∧ inI 0 1000 y ∧ inL 0 1000000000 v) := fun q => by first | exact absurd q.2.2.2 (bI_0.mp h4) | exact absurd (inL_i.mpr q.2.2.1) (bI_0.mp h3) | exact absurd q.2.1 (bI_0.mp h2) | (have := q.1; omega)
    refine lv_iconst (v := (-1)) hx hb d_O_part_39 (by decide) ?_
    have ew1 : kd = (if (pn < 8 ∧ inR x 6 ∧ inI 0 1000 y ∧ inL 0 1000000000 v) then updN kd pn (nOf x) else kd) := (if_neg hC).symm
    have hP : va_P D cls (fl [(wO kC ad td rn pn an jn tn bm fw gp ga bp fc fj rA rC ft (if (pn < 8 ∧ inR x 6 ∧ inI 0 1000 y ∧ inL 0 1000000000 v) then updN kd pn (nOf x) else kd) aG sR sT wh dY pd cN mN sv nd wr tl lt lT lD gv gn od br)]) s.heap := by rw [← ew1]; exact hP
    have hD : va_D A (fl [(wO kC ad td rn pn an jn tn bm fw gp ga bp fc fj rA rC ft (if (pn < 8 ∧ inR x 6 ∧ inI 0 1000 y ∧ inL 0 1000000000 v) then updN kd pn (nOf x) else kd) aG sR sT wh dY pd cN mN sv nd wr tl lt lT lD gv gn od br)]) := by rw [← ew1]; exact hD
    have ew2 : aG = (if (pn < 8 ∧ inR x 6 ∧ inI 0 1000 y ∧ inL 0 1000000000 v) then updN aG pn (nOf y) else aG) := (if_neg hC).symm
    have hP : va_P D cls (fl [(wO kC ad td rn pn an jn tn bm fw gp ga bp fc fj rA rC ft (if (pn < 8 ∧ inR x 6 ∧ inI 0 1000 y ∧ inL 0 1000000000 v) then updN kd pn (nOf x) else kd) (if (pn < 8 ∧ inR x 6 ∧ inI 0 1000 y ∧ inL 0 1000000000 v) then updN aG pn (nOf y) else aG) sR sT wh dY pd cN mN sv nd wr tl lt lT lD gv gn od br)]) s.heap := by rw [← ew2]; exact hP
    have hD : va_D A (fl [(wO kC ad td rn pn an jn tn bm fw gp ga bp fc fj rA rC ft (if (pn < 8 ∧ inR x 6 ∧ inI 0 1000 y ∧ inL 0 1000000000 v) then updN kd pn (nOf x) else kd) (if (pn < 8 ∧ inR x 6 ∧ inI 0 1000 y ∧ inL 0 1000000000 v) then updN aG pn (nOf y) else aG) sR sT wh dY pd cN mN sv nd wr tl lt lT lD gv gn od br)]) := by rw [← ew2]; exact hD
    have ew3 : sR = (if (pn < 8 ∧ inR x 6 ∧ inI 0 1000 y ∧ inL 0 1000000000 v) then updN sR pn (nOfL v) else sR) := (if_neg hC).symm
    have hP : va_P D cls (fl [(wO kC ad td rn pn an jn tn bm fw gp ga bp fc fj rA rC ft (if (pn < 8 ∧ inR x 6 ∧ inI 0 1000 y ∧ inL 0 1000000000 v) then updN kd pn (nOf x) else kd) (if (pn < 8 ∧ inR x 6 ∧ inI 0 1000 y ∧ inL 0 1000000000 v) then updN aG pn (nOf y) else aG) (if (pn < 8 ∧ inR x 6 ∧ inI 0 1000 y ∧ inL 0 1000000000 v) then updN sR pn (nOfL v) else sR) sT wh dY pd cN mN sv nd wr tl lt lT lD gv gn od br)]) s.heap := by rw [← ew3]; exact hP
    have hD : va_D A (fl [(wO kC ad td rn pn an jn tn bm fw gp ga bp fc fj rA rC ft (if (pn < 8 ∧ inR x 6 ∧ inI 0 1000 y ∧ inL 0 1000000000 v) then updN kd pn (nOf x) else kd) (if (pn < 8 ∧ inR x 6 ∧ inI 0 1000 y ∧ inL 0 1000000000 v) then updN aG pn (nOf y) else aG) (if (pn < 8 ∧ inR x 6 ∧ inI 0 1000 y ∧ inL 0 1000000000 v) then updN sR pn (nOfL v) else sR) sT wh dY pd cN mN sv nd wr tl lt lT lD gv gn od br)]) := by rw [← ew3]; exact hD
    have ew4 : pn = (if (pn < 8 ∧ inR x 6 ∧ inI 0 1000 y ∧ inL 0 1000000000 v) then pn + 1 else pn) := (if_neg hC).symm
    have hP : va_P D cls (fl [(wO kC ad td rn (if (pn < 8 ∧ inR x 6 ∧ inI 0 1000 y ∧ inL 0 1000000000 v) then pn + 1 else pn) an jn tn bm fw gp ga bp fc fj rA rC ft (if (pn < 8 ∧ inR x 6 ∧ inI 0 1000 y ∧ inL 0 1000000000 v) then updN kd pn (nOf x) else kd) (if (pn < 8 ∧ inR x 6 ∧ inI 0 1000 y ∧ inL 0 1000000000 v) then updN aG pn (nOf y) else aG) (if (pn < 8 ∧ inR x 6 ∧ inI 0 1000 y ∧ inL 0 1000000000 v) then updN sR pn (nOfL v) else sR) sT wh dY pd cN mN sv nd wr tl lt lT lD gv gn od br)]) s.heap := by rw [← ew4]; exact hP
    have hD : va_D A (fl [(wO kC ad td rn (if (pn < 8 ∧ inR x 6 ∧ inI 0 1000 y ∧ inL 0 1000000000 v) then pn + 1 else pn) an jn tn bm fw gp ga bp fc fj rA rC ft (if (pn < 8 ∧ inR x 6 ∧ inI 0 1000 y ∧ inL 0 1000000000 v) then updN kd pn (nOf x) else kd) (if (pn < 8 ∧ inR x 6 ∧ inI 0 1000 y ∧ inL 0 1000000000 v) then updN aG pn (nOf y) else aG) (if (pn < 8 ∧ inR x 6 ∧ inI 0 1000 y ∧ inL 0 1000000000 v) then updN sR pn (nOfL v) else sR) sT wh dY pd cN mN sv nd wr tl lt lT lD gv gn od br)]) := by rw [← ew4]; exact hD
    exact W.iret (v := (-1)) hx hb hr (fun t ht hW => by subst hAe; exact ⟨⟨(-1), (), rfl, (if_neg hC).symm, by rw [ht]; exact hP, va_K.moved hW.alike hK, hD⟩, hS.F ht⟩) (by subst hAe; exact hS.2.2) d_O_part_40
  · refine lv_iload_n hx hb d_O_part_9 rfl (lv_at hl 1 rfl) ?_
    refine r_calli (W.runS (As := [.int x]) (rest := []) ⟨hx, hb, hml, hown, hts⟩ (c_O_isKind l x) (cwS 1 hts g_O_part_isKind rfl rfl rfl (by decide +kernel) ⟨Nat.le_of_ble_eq_true rfl, Nat.le_of_ble_eq_true rfl⟩) p0_preS rfl rfl hl.1 rfl (lv_room (Nat.le_of_ble_eq_true rfl)) d_O_part_10 ⟨Nat.le_of_ble_eq_true rfl, Nat.le_of_ble_eq_true rfl⟩) ?_
    refine lv_if_eq (tgt := 39) hx hb d_O_part_13 (by decide) (fun h2 => ?_) (fun h2 => ?_)
    · have hC : ¬ (pn < 8 ∧ inR x 6 ∧ inI 0 1000 y ∧ inL 0 1000000000 v) := fun q => by first | exact absurd q.2.2.2 (bI_0.mp h4) | exact absurd (inL_i.mpr q.2.2.1) (bI_0.mp h3) | exact absurd q.2.1 (bI_0.mp h2) | (have := q.1; omega)
      refine lv_iconst (v := (-1)) hx hb d_O_part_39 (by decide) ?_
      have ew5 : kd = (if (pn < 8 ∧ inR x 6 ∧ inI 0 1000 y ∧ inL 0 1000000000 v) then updN kd pn (nOf x) else kd) := (if_neg hC).symm
      have hP : va_P D cls (fl [(wO kC ad td rn pn an jn tn bm fw gp ga bp fc fj rA rC ft (if (pn < 8 ∧ inR x 6 ∧ inI 0 1000 y ∧ inL 0 1000000000 v) then updN kd pn (nOf x) else kd) aG sR sT wh dY pd cN mN sv nd wr tl lt lT lD gv gn od br)]) s.heap := by rw [← ew5]; exact hP
      have hD : va_D A (fl [(wO kC ad td rn pn an jn tn bm fw gp ga bp fc fj rA rC ft (if (pn < 8 ∧ inR x 6 ∧ inI 0 1000 y ∧ inL 0 1000000000 v) then updN kd pn (nOf x) else kd) aG sR sT wh dY pd cN mN sv nd wr tl lt lT lD gv gn od br)]) := by rw [← ew5]; exact hD
      have ew6 : aG = (if (pn < 8 ∧ inR x 6 ∧ inI 0 1000 y ∧ inL 0 1000000000 v) then updN aG pn (nOf y) else aG) := (if_neg hC).symm
      have hP : va_P D cls (fl [(wO kC ad td rn pn an jn tn bm fw gp ga bp fc fj rA rC ft (if (pn < 8 ∧ inR x 6 ∧ inI 0 1000 y ∧ inL 0 1000000000 v) then updN kd pn (nOf x) else kd) (if (pn < 8 ∧ inR x 6 ∧ inI 0 1000 y ∧ inL 0 1000000000 v) then updN aG pn (nOf y) else aG) sR sT wh dY pd cN mN sv nd wr tl lt lT lD gv gn od br)]) s.heap := by rw [← ew6]; exact hP
      have hD : va_D A (fl [(wO kC ad td rn pn an jn tn bm fw gp ga bp fc fj rA rC ft (if (pn < 8 ∧ inR x 6 ∧ inI 0 1000 y ∧ inL 0 1000000000 v) then updN kd pn (nOf x) else kd) (if (pn < 8 ∧ inR x 6 ∧ inI 0 1000 y ∧ inL 0 1000000000 v) then updN aG pn (nOf y) else aG) sR sT wh dY pd cN mN sv nd wr tl lt lT lD gv gn od br)]) := by rw [← ew6]; exact hD
      have ew7 : sR = (if (pn < 8 ∧ inR x 6 ∧ inI 0 1000 y ∧ inL 0 1000000000 v) then updN sR pn (nOfL v) else sR) := (if_neg hC).symm
      have hP : va_P D cls (fl [(wO kC ad td rn pn an jn tn bm fw gp ga bp fc fj rA rC ft (if (pn < 8 ∧ inR x 6 ∧ inI 0 1000 y ∧ inL 0 1000000000 v) then updN kd pn (nOf x) else kd) (if (pn < 8 ∧ inR x 6 ∧ inI 0 1000 y ∧ inL 0 1000000000 v) then updN aG pn (nOf y) else aG) (if (pn < 8 ∧ inR x 6 ∧ inI 0 1000 y ∧ inL 0 1000000000 v) then updN sR pn (nOfL v) else sR) sT wh dY pd cN mN sv nd wr tl lt lT lD gv gn od br)]) s.heap := by rw [← ew7]; exact hP
      have hD : va_D A (fl [(wO kC ad td rn pn an jn tn bm fw gp ga bp fc fj rA rC ft (if (pn < 8 ∧ inR x 6 ∧ inI 0 1000 y ∧ inL 0 1000000000 v) then updN kd pn (nOf x) else kd) (if (pn < 8 ∧ inR x 6 ∧ inI 0 1000 y ∧ inL 0 1000000000 v) then updN aG pn (nOf y) else aG) (if (pn < 8 ∧ inR x 6 ∧ inI 0 1000 y ∧ inL 0 1000000000 v) then updN sR pn (nOfL v) else sR) sT wh dY pd cN mN sv nd wr tl lt lT lD gv gn od br)]) := by rw [← ew7]; exact hD
      have ew8 : pn = (if (pn < 8 ∧ inR x 6 ∧ inI 0 1000 y ∧ inL 0 1000000000 v) then pn + 1 else pn) := (if_neg hC).symm
      have hP : va_P D cls (fl [(wO kC ad td rn (if (pn < 8 ∧ inR x 6 ∧ inI 0 1000 y ∧ inL 0 1000000000 v) then pn + 1 else pn) an jn tn bm fw gp ga bp fc fj rA rC ft (if (pn < 8 ∧ inR x 6 ∧ inI 0 1000 y ∧ inL 0 1000000000 v) then updN kd pn (nOf x) else kd) (if (pn < 8 ∧ inR x 6 ∧ inI 0 1000 y ∧ inL 0 1000000000 v) then updN aG pn (nOf y) else aG) (if (pn < 8 ∧ inR x 6 ∧ inI 0 1000 y ∧ inL 0 1000000000 v) then updN sR pn (nOfL v) else sR) sT wh dY pd cN mN sv nd wr tl lt lT lD gv gn od br)]) s.heap := by rw [← ew8]; exact hP
      have hD : va_D A (fl [(wO kC ad td rn (if (pn < 8 ∧ inR x 6 ∧ inI 0 1000 y ∧ inL 0 1000000000 v) then pn + 1 else pn) an jn tn bm fw gp ga bp fc fj rA rC ft (if (pn < 8 ∧ inR x 6 ∧ inI 0 1000 y ∧ inL 0 1000000000 v) then updN kd pn (nOf x) else kd) (if (pn < 8 ∧ inR x 6 ∧ inI 0 1000 y ∧ inL 0 1000000000 v) then updN aG pn (nOf y) else aG) (if (pn < 8 ∧ inR x 6 ∧ inI 0 1000 y ∧ inL 0 1000000000 v) then updN sR pn (nOfL v) else sR) sT wh dY pd cN mN sv nd wr tl lt lT lD gv gn od br)]) := by rw [← ew8]; exact hD
      exact W.iret (v := (-1)) hx hb hr (fun t ht hW => by subst hAe; exact ⟨⟨(-1), (), rfl, (if_neg hC).symm, by rw [ht]; exact hP, va_K.moved hW.alike hK, hD⟩, hS.F ht⟩) (by subst hAe; exact hS.2.2) d_O_part_40
    · have h2 := bI_n0.mp h2
      refine lv_iload_n hx hb d_O_part_16 rfl (lv_at hl 2 rfl) ?_
      refine lv_i2l hx hb d_O_part_17 rfl ?_
      refine lv_lconst (v := lN 0) hx hb d_O_part_18 (by decide) ?_
      refine lv_ldc2 (v := 1000) hx hb hown (hts (.constantLong R_O 100 1000) (by decide +kernel)) d_O_part_19 ?_
      refine nv_topl (y := lN 1000) (by decide +kernel) ?_
      refine r_calli (W.runS (As := [.long y.toInt64, .long (lN 0), .long (lN 1000)]) (rest := []) ⟨hx, hb, hml, hown, hts⟩ (c_O_isIn l y.toInt64 0 1000 (by decide) (by decide)) (cwS 3 hts g_O_part_isIn rfl rfl rfl (by decide +kernel) ⟨Nat.le_of_ble_eq_true rfl, Nat.le_of_ble_eq_true rfl⟩) p0_preS rfl rfl hl.1 rfl (lv_room (Nat.le_of_ble_eq_true rfl)) d_O_part_22 ⟨Nat.le_of_ble_eq_true rfl, Nat.le_of_ble_eq_true rfl⟩) ?_
      refine lv_if_eq (tgt := 39) hx hb d_O_part_25 (by decide) (fun h3 => ?_) (fun h3 => ?_)
      · have hC : ¬ (pn < 8 ∧ inR x 6 ∧ inI 0 1000 y ∧ inL 0 1000000000 v) := fun q => by first | exact absurd q.2.2.2 (bI_0.mp h4) | exact absurd (inL_i.mpr q.2.2.1) (bI_0.mp h3) | exact absurd q.2.1 (bI_0.mp h2) | (have := q.1; omega)
        refine lv_iconst (v := (-1)) hx hb d_O_part_39 (by decide) ?_
        have ew9 : kd = (if (pn < 8 ∧ inR x 6 ∧ inI 0 1000 y ∧ inL 0 1000000000 v) then updN kd pn (nOf x) else kd) := (if_neg hC).symm
        have hP : va_P D cls (fl [(wO kC ad td rn pn an jn tn bm fw gp ga bp fc fj rA rC ft (if (pn < 8 ∧ inR x 6 ∧ inI 0 1000 y ∧ inL 0 1000000000 v) then updN kd pn (nOf x) else kd) aG sR sT wh dY pd cN mN sv nd wr tl lt lT lD gv gn od br)]) s.heap := by rw [← ew9]; exact hP
        have hD : va_D A (fl [(wO kC ad td rn pn an jn tn bm fw gp ga bp fc fj rA rC ft (if (pn < 8 ∧ inR x 6 ∧ inI 0 1000 y ∧ inL 0 1000000000 v) then updN kd pn (nOf x) else kd) aG sR sT wh dY pd cN mN sv nd wr tl lt lT lD gv gn od br)]) := by rw [← ew9]; exact hD
        have ew10 : aG = (if (pn < 8 ∧ inR x 6 ∧ inI 0 1000 y ∧ inL 0 1000000000 v) then updN aG pn (nOf y) else aG) := (if_neg hC).symm
        have hP : va_P D cls (fl [(wO kC ad td rn pn an jn tn bm fw gp ga bp fc fj rA rC ft (if (pn < 8 ∧ inR x 6 ∧ inI 0 1000 y ∧ inL 0 1000000000 v) then updN kd pn (nOf x) else kd) (if (pn < 8 ∧ inR x 6 ∧ inI 0 1000 y ∧ inL 0 1000000000 v) then updN aG pn (nOf y) else aG) sR sT wh dY pd cN mN sv nd wr tl lt lT lD gv gn od br)]) s.heap := by rw [← ew10]; exact hP
        have hD : va_D A (fl [(wO kC ad td rn pn an jn tn bm fw gp ga bp fc fj rA rC ft (if (pn < 8 ∧ inR x 6 ∧ inI 0 1000 y ∧ inL 0 1000000000 v) then updN kd pn (nOf x) else kd) (if (pn < 8 ∧ inR x 6 ∧ inI 0 1000 y ∧ inL 0 1000000000 v) then updN aG pn (nOf y) else aG) sR sT wh dY pd cN mN sv nd wr tl lt lT lD gv gn od br)]) := by rw [← ew10]; exact hD
        have ew11 : sR = (if (pn < 8 ∧ inR x 6 ∧ inI 0 1000 y ∧ inL 0 1000000000 v) then updN sR pn (nOfL v) else sR) := (if_neg hC).symm
        have hP : va_P D cls (fl [(wO kC ad td rn pn an jn tn bm fw gp ga bp fc fj rA rC ft (if (pn < 8 ∧ inR x 6 ∧ inI 0 1000 y ∧ inL 0 1000000000 v) then updN kd pn (nOf x) else kd) (if (pn < 8 ∧ inR x 6 ∧ inI 0 1000 y ∧ inL 0 1000000000 v) then updN aG pn (nOf y) else aG) (if (pn < 8 ∧ inR x 6 ∧ inI 0 1000 y ∧ inL 0 1000000000 v) then updN sR pn (nOfL v) else sR) sT wh dY pd cN mN sv nd wr tl lt lT lD gv gn od br)]) s.heap := by rw [← ew11]; exact hP
        have hD : va_D A (fl [(wO kC ad td rn pn an jn tn bm fw gp ga bp fc fj rA rC ft (if (pn < 8 ∧ inR x 6 ∧ inI 0 1000 y ∧ inL 0 1000000000 v) then updN kd pn (nOf x) else kd) (if (pn < 8 ∧ inR x 6 ∧ inI 0 1000 y ∧ inL 0 1000000000 v) then updN aG pn (nOf y) else aG) (if (pn < 8 ∧ inR x 6 ∧ inI 0 1000 y ∧ inL 0 1000000000 v) then updN sR pn (nOfL v) else sR) sT wh dY pd cN mN sv nd wr tl lt lT lD gv gn od br)]) := by rw [← ew11]; exact hD
        have ew12 : pn = (if (pn < 8 ∧ inR x 6 ∧ inI 0 1000 y ∧ inL 0 1000000000 v) then pn + 1 else pn) := (if_neg hC).symm
        have hP : va_P D cls (fl [(wO kC ad td rn (if (pn < 8 ∧ inR x 6 ∧ inI 0 1000 y ∧ inL 0 1000000000 v) then pn + 1 else pn) an jn tn bm fw gp ga bp fc fj rA rC ft (if (pn < 8 ∧ inR x 6 ∧ inI 0 1000 y ∧ inL 0 1000000000 v) then updN kd pn (nOf x) else kd) (if (pn < 8 ∧ inR x 6 ∧ inI 0 1000 y ∧ inL 0 1000000000 v) then updN aG pn (nOf y) else aG) (if (pn < 8 ∧ inR x 6 ∧ inI 0 1000 y ∧ inL 0 1000000000 v) then updN sR pn (nOfL v) else sR) sT wh dY pd cN mN sv nd wr tl lt lT lD gv gn od br)]) s.heap := by rw [← ew12]; exact hP
        have hD : va_D A (fl [(wO kC ad td rn (if (pn < 8 ∧ inR x 6 ∧ inI 0 1000 y ∧ inL 0 1000000000 v) then pn + 1 else pn) an jn tn bm fw gp ga bp fc fj rA rC ft (if (pn < 8 ∧ inR x 6 ∧ inI 0 1000 y ∧ inL 0 1000000000 v) then updN kd pn (nOf x) else kd) (if (pn < 8 ∧ inR x 6 ∧ inI 0 1000 y ∧ inL 0 1000000000 v) then updN aG pn (nOf y) else aG) (if (pn < 8 ∧ inR x 6 ∧ inI 0 1000 y ∧ inL 0 1000000000 v) then updN sR pn (nOfL v) else sR) sT wh dY pd cN mN sv nd wr tl lt lT lD gv gn od br)]) := by rw [← ew12]; exact hD
        exact W.iret (v := (-1)) hx hb hr (fun t ht hW => by subst hAe; exact ⟨⟨(-1), (), rfl, (if_neg hC).symm, by rw [ht]; exact hP, va_K.moved hW.alike hK, hD⟩, hS.F ht⟩) (by subst hAe; exact hS.2.2) d_O_part_40
      · have h3 := inL_i.mp (bI_n0.mp h3)
        refine lv_lload_n hx hb d_O_part_28 rfl (lv_at hl 3 rfl) ?_
        refine lv_lconst (v := lN 0) hx hb d_O_part_29 (by decide) ?_
        refine lv_ldc2 (v := 1000000000) hx hb hown (hts (.constantLong R_O 106 1000000000) (by decide +kernel)) d_O_part_30 ?_
        refine nv_topl (y := lN 1000000000) (by decide +kernel) ?_
        refine r_calli (W.runS (As := [.long v, .long (lN 0), .long (lN 1000000000)]) (rest := []) ⟨hx, hb, hml, hown, hts⟩ (c_O_isIn l v 0 1000000000 (by decide) (by decide)) (cwS 3 hts g_O_part_isIn rfl rfl rfl (by decide +kernel) ⟨Nat.le_of_ble_eq_true rfl, Nat.le_of_ble_eq_true rfl⟩) p0_preS rfl rfl hl.1 rfl (lv_room (Nat.le_of_ble_eq_true rfl)) d_O_part_33 ⟨Nat.le_of_ble_eq_true rfl, Nat.le_of_ble_eq_true rfl⟩) ?_
        refine lv_if_ne (tgt := 41) hx hb d_O_part_36 (by decide) (fun h4 => ?_) (fun h4 => ?_)
        · have h4 := bI_n0.mp h4
          have hC : (pn < 8 ∧ inR x 6 ∧ inI 0 1000 y ∧ inL 0 1000000000 v) := ⟨by omega, h2, h3, h4⟩
          obtain ⟨j, hj, rfl⟩ := inR_n (by decide) h2
          obtain ⟨k, hk1, hk2, rfl⟩ := inI_n (by decide) h3
          obtain ⟨i, hi1, hi2, rfl⟩ := inL_n (by decide) h4
          refine lv_aload_n hx hb d_O_part_41 rfl (lv_at hl 0 rfl) ?_
          refine fv_get (ci := 7) (v := .ref (ad 4)) (C := R_O) (T := F_O) (N := 36) hx hb hts (by decide +kernel) hown hK hP 0 0 rfl rfl rfl 6 (by decide) (hts (.fieldLink R_O 21 "PartShelvesModel" "kinds" "[I") (by decide +kernel)) (fun _ h9 => h9) rfl d_O_part_42 ?_
          refine lv_aload_n hx hb d_O_part_45 rfl (lv_at hl 0 rfl) ?_
          refine fv_get (ci := 7) (v := .int (nI pn)) (C := R_O) (T := F_O) (N := 36) hx hb hts (by decide +kernel) hown hK hP 0 0 rfl rfl rfl 5 (by decide) (hts (.fieldLink R_O 81 "PartShelvesModel" "parts" "I") (by decide +kernel)) (fun _ h9 => h9) rfl d_O_part_46 ?_
          refine lv_iload_n hx hb d_O_part_49 rfl (lv_at hl 1 rfl) ?_
          refine fa_iastN hx hb hK hP hD hS 0 4 0 rfl rfl rfl (by omega) (by decide) d_O_part_50 (fun H locs hP hD hS => ?_)
          have hP : va_P D cls (fl [(wO kC ad td rn pn an jn tn bm fw gp ga bp fc fj rA rC ft (updN kd pn j) aG sR sT wh dY pd cN mN sv nd wr tl lt lT lD gv gn od br)]) H := hP
          have hD : va_D A (fl [(wO kC ad td rn pn an jn tn bm fw gp ga bp fc fj rA rC ft (updN kd pn j) aG sR sT wh dY pd cN mN sv nd wr tl lt lT lD gv gn od br)]) := hD
          refine lv_aload_n hx hb d_O_part_51 rfl (lv_at hl 0 rfl) ?_
          refine fv_get (ci := 7) (v := .ref (ad 5)) (C := R_O) (T := F_O) (N := 36) hx hb hts (by decide +kernel) hown hK hP 0 0 rfl rfl rfl 7 (by decide) (hts (.fieldLink R_O 24 "PartShelvesModel" "ages" "[I") (by decide +kernel)) (fun _ h9 => h9) rfl d_O_part_52 ?_
          refine lv_aload_n hx hb d_O_part_55 rfl (lv_at hl 0 rfl) ?_
          refine fv_get (ci := 7) (v := .int (nI pn)) (C := R_O) (T := F_O) (N := 36) hx hb hts (by decide +kernel) hown hK hP 0 0 rfl rfl rfl 5 (by decide) (hts (.fieldLink R_O 81 "PartShelvesModel" "parts" "I") (by decide +kernel)) (fun _ h9 => h9) rfl d_O_part_56 ?_
          refine lv_iload_n hx hb d_O_part_59 rfl (lv_at hl 2 rfl) ?_
          refine fa_iastN hx hb hK hP hD hS 0 5 0 rfl rfl rfl (by omega) (by decide) d_O_part_60 (fun H locs hP hD hS => ?_)
          have hP : va_P D cls (fl [(wO kC ad td rn pn an jn tn bm fw gp ga bp fc fj rA rC ft (updN kd pn j) (updN aG pn k) sR sT wh dY pd cN mN sv nd wr tl lt lT lD gv gn od br)]) H := hP
          have hD : va_D A (fl [(wO kC ad td rn pn an jn tn bm fw gp ga bp fc fj rA rC ft (updN kd pn j) (updN aG pn k) sR sT wh dY pd cN mN sv nd wr tl lt lT lD gv gn od br)]) := hD
          refine lv_aload_n hx hb d_O_part_61 rfl (lv_at hl 0 rfl) ?_
          refine fv_get (ci := 7) (v := .ref (ad 6)) (C := R_O) (T := F_O) (N := 36) hx hb hts (by decide +kernel) hown hK hP 0 0 rfl rfl rfl 8 (by decide) (hts (.fieldLink R_O 27 "PartShelvesModel" "serials" "[J") (by decide +kernel)) (fun _ h9 => h9) rfl d_O_part_62 ?_
          refine lv_aload_n hx hb d_O_part_65 rfl (lv_at hl 0 rfl) ?_
          refine fv_get (ci := 7) (v := .int (nI pn)) (C := R_O) (T := F_O) (N := 36) hx hb hts (by decide +kernel) hown hK hP 0 0 rfl rfl rfl 5 (by decide) (hts (.fieldLink R_O 81 "PartShelvesModel" "parts" "I") (by decide +kernel)) (fun _ h9 => h9) rfl d_O_part_66 ?_
          refine lv_lload_n hx hb d_O_part_69 rfl (lv_at hl 3 rfl) ?_
          refine fa_lastN hx hb hK hP hD hS 0 6 1 rfl rfl rfl (by omega) (by decide) d_O_part_70 (fun H locs hP hD hS => ?_)
          have hP : va_P D cls (fl [(wO kC ad td rn pn an jn tn bm fw gp ga bp fc fj rA rC ft (updN kd pn j) (updN aG pn k) (updN sR pn i) sT wh dY pd cN mN sv nd wr tl lt lT lD gv gn od br)]) H := hP
          have hD : va_D A (fl [(wO kC ad td rn pn an jn tn bm fw gp ga bp fc fj rA rC ft (updN kd pn j) (updN aG pn k) (updN sR pn i) sT wh dY pd cN mN sv nd wr tl lt lT lD gv gn od br)]) := hD
          refine lv_aload_n hx hb d_O_part_71 rfl (lv_at hl 0 rfl) ?_
          refine lv_dup hx hb d_O_part_72 rfl ?_
          refine fv_get (ci := 7) (v := .int (nI pn)) (C := R_O) (T := F_O) (N := 36) hx hb hts (by decide +kernel) hown hK hP 0 0 rfl rfl rfl 5 (by decide) (hts (.fieldLink R_O 81 "PartShelvesModel" "parts" "I") (by decide +kernel)) (fun _ h9 => h9) rfl d_O_part_73 ?_
          refine lv_iconst (v := nI 1) hx hb d_O_part_76 (by decide) ?_
          refine nv_iadd hx hb d_O_part_77 ?_
          refine fv_put (ci := 7) (v := .int (nI (pn + 1))) (ty := (.int)) (C := R_O) (T := F_O) (N := 36) hx hb hts (by decide +kernel) t_O t_O_ok n_O hown hK hP hD hS 0 0 rfl rfl rfl 5 (by decide) (hts (.fieldLink R_O 81 "PartShelvesModel" "parts" "I") (by decide +kernel)) (fun _ h9 => h9) rfl (by decide +kernel) (rfl) (rfl) (Nat.le_of_ble_eq_true rfl) d_O_part_78 (fun H locs hP hD hS => ?_)
          have hP : va_P D cls (fl [(wO kC ad td rn (pn + 1) an jn tn bm fw gp ga bp fc fj rA rC ft (updN kd pn j) (updN aG pn k) (updN sR pn i) sT wh dY pd cN mN sv nd wr tl lt lT lD gv gn od br)]) H := hP
          have hD : va_D A (fl [(wO kC ad td rn (pn + 1) an jn tn bm fw gp ga bp fc fj rA rC ft (updN kd pn j) (updN aG pn k) (updN sR pn i) sT wh dY pd cN mN sv nd wr tl lt lT lD gv gn od br)]) := hD
          refine lv_aload_n hx hb d_O_part_81 rfl (lv_at hl 0 rfl) ?_
          refine fv_get (ci := 7) (v := .int (nI (pn + 1))) (C := R_O) (T := F_O) (N := 36) hx hb hts (by decide +kernel) hown hK hP 0 0 rfl rfl rfl 5 (by decide) (hts (.fieldLink R_O 81 "PartShelvesModel" "parts" "I") (by decide +kernel)) (fun _ h9 => h9) rfl d_O_part_82 ?_
          refine lv_iconst (v := nI 1) hx hb d_O_part_85 (by decide) ?_
          refine nv_isub hx hb d_O_part_86 (by omega) ?_
          have ew13 : (updN kd pn j) = (if (pn < 8 ∧ inR (nI j) 6 ∧ inI 0 1000 (nI k) ∧ inL 0 1000000000 (lN i)) then updN kd pn (nOf (nI j)) else kd) := by rw [if_pos hC, nOf_nI (by omega)]
          have hP : va_P D cls (fl [(wO kC ad td rn (pn + 1) an jn tn bm fw gp ga bp fc fj rA rC ft (if (pn < 8 ∧ inR (nI j) 6 ∧ inI 0 1000 (nI k) ∧ inL 0 1000000000 (lN i)) then updN kd pn (nOf (nI j)) else kd) (updN aG pn k) (updN sR pn i) sT wh dY pd cN mN sv nd wr tl lt lT lD gv gn od br)]) H := by rw [← ew13]; exact hP
          have hD : va_D A (fl [(wO kC ad td rn (pn + 1) an jn tn bm fw gp ga bp fc fj rA rC ft (if (pn < 8 ∧ inR (nI j) 6 ∧ inI 0 1000 (nI k) ∧ inL 0 1000000000 (lN i)) then updN kd pn (nOf (nI j)) else kd) (updN aG pn k) (updN sR pn i) sT wh dY pd cN mN sv nd wr tl lt lT lD gv gn od br)]) := by rw [← ew13]; exact hD
          have ew14 : (updN aG pn k) = (if (pn < 8 ∧ inR (nI j) 6 ∧ inI 0 1000 (nI k) ∧ inL 0 1000000000 (lN i)) then updN aG pn (nOf (nI k)) else aG) := by rw [if_pos hC, nOf_nI (by omega)]
          have hP : va_P D cls (fl [(wO kC ad td rn (pn + 1) an jn tn bm fw gp ga bp fc fj rA rC ft (if (pn < 8 ∧ inR (nI j) 6 ∧ inI 0 1000 (nI k) ∧ inL 0 1000000000 (lN i)) then updN kd pn (nOf (nI j)) else kd) (if (pn < 8 ∧ inR (nI j) 6 ∧ inI 0 1000 (nI k) ∧ inL 0 1000000000 (lN i)) then updN aG pn (nOf (nI k)) else aG) (updN sR pn i) sT wh dY pd cN mN sv nd wr tl lt lT lD gv gn od br)]) H := by rw [← ew14]; exact hP
          have hD : va_D A (fl [(wO kC ad td rn (pn + 1) an jn tn bm fw gp ga bp fc fj rA rC ft (if (pn < 8 ∧ inR (nI j) 6 ∧ inI 0 1000 (nI k) ∧ inL 0 1000000000 (lN i)) then updN kd pn (nOf (nI j)) else kd) (if (pn < 8 ∧ inR (nI j) 6 ∧ inI 0 1000 (nI k) ∧ inL 0 1000000000 (lN i)) then updN aG pn (nOf (nI k)) else aG) (updN sR pn i) sT wh dY pd cN mN sv nd wr tl lt lT lD gv gn od br)]) := by rw [← ew14]; exact hD
          have ew15 : (updN sR pn i) = (if (pn < 8 ∧ inR (nI j) 6 ∧ inI 0 1000 (nI k) ∧ inL 0 1000000000 (lN i)) then updN sR pn (nOfL (lN i)) else sR) := by rw [if_pos hC, nOfL_lN (by omega)]
          have hP : va_P D cls (fl [(wO kC ad td rn (pn + 1) an jn tn bm fw gp ga bp fc fj rA rC ft (if (pn < 8 ∧ inR (nI j) 6 ∧ inI 0 1000 (nI k) ∧ inL 0 1000000000 (lN i)) then updN kd pn (nOf (nI j)) else kd) (if (pn < 8 ∧ inR (nI j) 6 ∧ inI 0 1000 (nI k) ∧ inL 0 1000000000 (lN i)) then updN aG pn (nOf (nI k)) else aG) (if (pn < 8 ∧ inR (nI j) 6 ∧ inI 0 1000 (nI k) ∧ inL 0 1000000000 (lN i)) then updN sR pn (nOfL (lN i)) else sR) sT wh dY pd cN mN sv nd wr tl lt lT lD gv gn od br)]) H := by rw [← ew15]; exact hP
          have hD : va_D A (fl [(wO kC ad td rn (pn + 1) an jn tn bm fw gp ga bp fc fj rA rC ft (if (pn < 8 ∧ inR (nI j) 6 ∧ inI 0 1000 (nI k) ∧ inL 0 1000000000 (lN i)) then updN kd pn (nOf (nI j)) else kd) (if (pn < 8 ∧ inR (nI j) 6 ∧ inI 0 1000 (nI k) ∧ inL 0 1000000000 (lN i)) then updN aG pn (nOf (nI k)) else aG) (if (pn < 8 ∧ inR (nI j) 6 ∧ inI 0 1000 (nI k) ∧ inL 0 1000000000 (lN i)) then updN sR pn (nOfL (lN i)) else sR) sT wh dY pd cN mN sv nd wr tl lt lT lD gv gn od br)]) := by rw [← ew15]; exact hD
          have ew16 : (pn + 1) = (if (pn < 8 ∧ inR (nI j) 6 ∧ inI 0 1000 (nI k) ∧ inL 0 1000000000 (lN i)) then pn + 1 else pn) := by rw [if_pos hC]
          have hP : va_P D cls (fl [(wO kC ad td rn (if (pn < 8 ∧ inR (nI j) 6 ∧ inI 0 1000 (nI k) ∧ inL 0 1000000000 (lN i)) then pn + 1 else pn) an jn tn bm fw gp ga bp fc fj rA rC ft (if (pn < 8 ∧ inR (nI j) 6 ∧ inI 0 1000 (nI k) ∧ inL 0 1000000000 (lN i)) then updN kd pn (nOf (nI j)) else kd) (if (pn < 8 ∧ inR (nI j) 6 ∧ inI 0 1000 (nI k) ∧ inL 0 1000000000 (lN i)) then updN aG pn (nOf (nI k)) else aG) (if (pn < 8 ∧ inR (nI j) 6 ∧ inI 0 1000 (nI k) ∧ inL 0 1000000000 (lN i)) then updN sR pn (nOfL (lN i)) else sR) sT wh dY pd cN mN sv nd wr tl lt lT lD gv gn od br)]) H := by rw [← ew16]; exact hP
          have hD : va_D A (fl [(wO kC ad td rn (if (pn < 8 ∧ inR (nI j) 6 ∧ inI 0 1000 (nI k) ∧ inL 0 1000000000 (lN i)) then pn + 1 else pn) an jn tn bm fw gp ga bp fc fj rA rC ft (if (pn < 8 ∧ inR (nI j) 6 ∧ inI 0 1000 (nI k) ∧ inL 0 1000000000 (lN i)) then updN kd pn (nOf (nI j)) else kd) (if (pn < 8 ∧ inR (nI j) 6 ∧ inI 0 1000 (nI k) ∧ inL 0 1000000000 (lN i)) then updN aG pn (nOf (nI k)) else aG) (if (pn < 8 ∧ inR (nI j) 6 ∧ inI 0 1000 (nI k) ∧ inL 0 1000000000 (lN i)) then updN sR pn (nOfL (lN i)) else sR) sT wh dY pd cN mN sv nd wr tl lt lT lD gv gn od br)]) := by rw [← ew16]; exact hD
          exact W.iret (v := nI ((pn + 1) - 1)) hx hb hr (fun t ht hW => by subst hAe; exact ⟨⟨(nI ((pn + 1) - 1)), (), rfl, (if_pos hC).symm, by rw [ht]; exact hP, va_K.moved hW.alike hK, hD⟩, hS.F ht⟩) (by subst hAe; exact hS.2.2) d_O_part_87
        · have hC : ¬ (pn < 8 ∧ inR x 6 ∧ inI 0 1000 y ∧ inL 0 1000000000 v) := fun q => by first | exact absurd q.2.2.2 (bI_0.mp h4) | exact absurd (inL_i.mpr q.2.2.1) (bI_0.mp h3) | exact absurd q.2.1 (bI_0.mp h2) | (have := q.1; omega)
          refine lv_iconst (v := (-1)) hx hb d_O_part_39 (by decide) ?_
          have ew17 : kd = (if (pn < 8 ∧ inR x 6 ∧ inI 0 1000 y ∧ inL 0 1000000000 v) then updN kd pn (nOf x) else kd) := (if_neg hC).symm
          have hP : va_P D cls (fl [(wO kC ad td rn pn an jn tn bm fw gp ga bp fc fj rA rC ft (if (pn < 8 ∧ inR x 6 ∧ inI 0 1000 y ∧ inL 0 1000000000 v) then updN kd pn (nOf x) else kd) aG sR sT wh dY pd cN mN sv nd wr tl lt lT lD gv gn od br)]) s.heap := by rw [← ew17]; exact hP
          have hD : va_D A (fl [(wO kC ad td rn pn an jn tn bm fw gp ga bp fc fj rA rC ft (if (pn < 8 ∧ inR x 6 ∧ inI 0 1000 y ∧ inL 0 1000000000 v) then updN kd pn (nOf x) else kd) aG sR sT wh dY pd cN mN sv nd wr tl lt lT lD gv gn od br)]) := by rw [← ew17]; exact hD
          have ew18 : aG = (if (pn < 8 ∧ inR x 6 ∧ inI 0 1000 y ∧ inL 0 1000000000 v) then updN aG pn (nOf y) else aG) := (if_neg hC).symm
          have hP : va_P D cls (fl [(wO kC ad td rn pn an jn tn bm fw gp ga bp fc fj rA rC ft (if (pn < 8 ∧ inR x 6 ∧ inI 0 1000 y ∧ inL 0 1000000000 v) then updN kd pn (nOf x) else kd) (if (pn < 8 ∧ inR x 6 ∧ inI 0 1000 y ∧ inL 0 1000000000 v) then updN aG pn (nOf y) else aG) sR sT wh dY pd cN mN sv nd wr tl lt lT lD gv gn od br)]) s.heap := by rw [← ew18]; exact hP
          have hD : va_D A (fl [(wO kC ad td rn pn an jn tn bm fw gp ga bp fc fj rA rC ft (if (pn < 8 ∧ inR x 6 ∧ inI 0 1000 y ∧ inL 0 1000000000 v) then updN kd pn (nOf x) else kd) (if (pn < 8 ∧ inR x 6 ∧ inI 0 1000 y ∧ inL 0 1000000000 v) then updN aG pn (nOf y) else aG) sR sT wh dY pd cN mN sv nd wr tl lt lT lD gv gn od br)]) := by rw [← ew18]; exact hD
          have ew19 : sR = (if (pn < 8 ∧ inR x 6 ∧ inI 0 1000 y ∧ inL 0 1000000000 v) then updN sR pn (nOfL v) else sR) := (if_neg hC).symm
          have hP : va_P D cls (fl [(wO kC ad td rn pn an jn tn bm fw gp ga bp fc fj rA rC ft (if (pn < 8 ∧ inR x 6 ∧ inI 0 1000 y ∧ inL 0 1000000000 v) then updN kd pn (nOf x) else kd) (if (pn < 8 ∧ inR x 6 ∧ inI 0 1000 y ∧ inL 0 1000000000 v) then updN aG pn (nOf y) else aG) (if (pn < 8 ∧ inR x 6 ∧ inI 0 1000 y ∧ inL 0 1000000000 v) then updN sR pn (nOfL v) else sR) sT wh dY pd cN mN sv nd wr tl lt lT lD gv gn od br)]) s.heap := by rw [← ew19]; exact hP
          have hD : va_D A (fl [(wO kC ad td rn pn an jn tn bm fw gp ga bp fc fj rA rC ft (if (pn < 8 ∧ inR x 6 ∧ inI 0 1000 y ∧ inL 0 1000000000 v) then updN kd pn (nOf x) else kd) (if (pn < 8 ∧ inR x 6 ∧ inI 0 1000 y ∧ inL 0 1000000000 v) then updN aG pn (nOf y) else aG) (if (pn < 8 ∧ inR x 6 ∧ inI 0 1000 y ∧ inL 0 1000000000 v) then updN sR pn (nOfL v) else sR) sT wh dY pd cN mN sv nd wr tl lt lT lD gv gn od br)]) := by rw [← ew19]; exact hD
          have ew20 : pn = (if (pn < 8 ∧ inR x 6 ∧ inI 0 1000 y ∧ inL 0 1000000000 v) then pn + 1 else pn) := (if_neg hC).symm
          have hP : va_P D cls (fl [(wO kC ad td rn (if (pn < 8 ∧ inR x 6 ∧ inI 0 1000 y ∧ inL 0 1000000000 v) then pn + 1 else pn) an jn tn bm fw gp ga bp fc fj rA rC ft (if (pn < 8 ∧ inR x 6 ∧ inI 0 1000 y ∧ inL 0 1000000000 v) then updN kd pn (nOf x) else kd) (if (pn < 8 ∧ inR x 6 ∧ inI 0 1000 y ∧ inL 0 1000000000 v) then updN aG pn (nOf y) else aG) (if (pn < 8 ∧ inR x 6 ∧ inI 0 1000 y ∧ inL 0 1000000000 v) then updN sR pn (nOfL v) else sR) sT wh dY pd cN mN sv nd wr tl lt lT lD gv gn od br)]) s.heap := by rw [← ew20]; exact hP
          have hD : va_D A (fl [(wO kC ad td rn (if (pn < 8 ∧ inR x 6 ∧ inI 0 1000 y ∧ inL 0 1000000000 v) then pn + 1 else pn) an jn tn bm fw gp ga bp fc fj rA rC ft (if (pn < 8 ∧ inR x 6 ∧ inI 0 1000 y ∧ inL 0 1000000000 v) then updN kd pn (nOf x) else kd) (if (pn < 8 ∧ inR x 6 ∧ inI 0 1000 y ∧ inL 0 1000000000 v) then updN aG pn (nOf y) else aG) (if (pn < 8 ∧ inR x 6 ∧ inI 0 1000 y ∧ inL 0 1000000000 v) then updN sR pn (nOfL v) else sR) sT wh dY pd cN mN sv nd wr tl lt lT lD gv gn od br)]) := by rw [← ew20]; exact hD
          exact W.iret (v := (-1)) hx hb hr (fun t ht hW => by subst hAe; exact ⟨⟨(-1), (), rfl, (if_neg hC).symm, by rw [ht]; exact hP, va_K.moved hW.alike hK, hD⟩, hS.F ht⟩) (by subst hAe; exact hS.2.2) d_O_part_40

abbrev b_O_ask : ByteArray := prog_9_method_16_code
def y_O_ask : MethodName := ⟨"PartShelvesModel", "ask", "(IJJ)I"⟩
theorem d_O_ask_0 : decode b_O_ask 0 = .ok (.aload_n 0, 1) := by decide +kernel
theorem d_O_ask_1 : decode b_O_ask 1 = .ok (.getfield 85, 3) := by decide +kernel
theorem d_O_ask_4 : decode b_O_ask 4 = .ok (.bipush 8, 2) := by decide +kernel
theorem d_O_ask_6 : decode b_O_ask 6 = .ok (.if_icmp .eq 33, 3) := by decide +kernel
theorem d_O_ask_9 : decode b_O_ask 9 = .ok (.iload_n 1, 1) := by decide +kernel
theorem d_O_ask_10 : decode b_O_ask 10 = .ok (.invokestatic 102, 3) := by decide +kernel
theorem d_O_ask_13 : decode b_O_ask 13 = .ok (.ifCond .eq 26, 3) := by decide +kernel
theorem d_O_ask_16 : decode b_O_ask 16 = .ok (.lload_n 2, 1) := by decide +kernel
theorem d_O_ask_17 : decode b_O_ask 17 = .ok (.lconst 0, 1) := by decide +kernel
theorem d_O_ask_18 : decode b_O_ask 18 = .ok (.ldc2_w 121, 3) := by decide +kernel
theorem d_O_ask_21 : decode b_O_ask 21 = .ok (.invokestatic 93, 3) := by decide +kernel
theorem d_O_ask_24 : decode b_O_ask 24 = .ok (.ifCond .eq 15, 3) := by decide +kernel
theorem d_O_ask_27 : decode b_O_ask 27 = .ok (.lload 4, 2) := by decide +kernel
theorem d_O_ask_29 : decode b_O_ask 29 = .ok (.lconst 0, 1) := by decide +kernel
theorem d_O_ask_30 : decode b_O_ask 30 = .ok (.ldc2_w 106, 3) := by decide +kernel
theorem d_O_ask_33 : decode b_O_ask 33 = .ok (.invokestatic 93, 3) := by decide +kernel
theorem d_O_ask_36 : decode b_O_ask 36 = .ok (.ifCond .ne 5, 3) := by decide +kernel
theorem d_O_ask_39 : decode b_O_ask 39 = .ok (.iconst (-1), 1) := by decide +kernel
theorem d_O_ask_40 : decode b_O_ask 40 = .ok (.ireturn, 1) := by decide +kernel
theorem d_O_ask_41 : decode b_O_ask 41 = .ok (.aload_n 0, 1) := by decide +kernel
theorem d_O_ask_42 : decode b_O_ask 42 = .ok (.getfield 39, 3) := by decide +kernel
theorem d_O_ask_45 : decode b_O_ask 45 = .ok (.aload_n 0, 1) := by decide +kernel
theorem d_O_ask_46 : decode b_O_ask 46 = .ok (.getfield 85, 3) := by decide +kernel
theorem d_O_ask_49 : decode b_O_ask 49 = .ok (.iload_n 1, 1) := by decide +kernel
theorem d_O_ask_50 : decode b_O_ask 50 = .ok (.iastore, 1) := by decide +kernel
theorem d_O_ask_51 : decode b_O_ask 51 = .ok (.aload_n 0, 1) := by decide +kernel
theorem d_O_ask_52 : decode b_O_ask 52 = .ok (.getfield 42, 3) := by decide +kernel
theorem d_O_ask_55 : decode b_O_ask 55 = .ok (.aload_n 0, 1) := by decide +kernel
theorem d_O_ask_56 : decode b_O_ask 56 = .ok (.getfield 85, 3) := by decide +kernel
theorem d_O_ask_59 : decode b_O_ask 59 = .ok (.lload_n 2, 1) := by decide +kernel
theorem d_O_ask_60 : decode b_O_ask 60 = .ok (.lastore, 1) := by decide +kernel
theorem d_O_ask_61 : decode b_O_ask 61 = .ok (.aload_n 0, 1) := by decide +kernel
theorem d_O_ask_62 : decode b_O_ask 62 = .ok (.getfield 45, 3) := by decide +kernel
theorem d_O_ask_65 : decode b_O_ask 65 = .ok (.aload_n 0, 1) := by decide +kernel
theorem d_O_ask_66 : decode b_O_ask 66 = .ok (.getfield 85, 3) := by decide +kernel
theorem d_O_ask_69 : decode b_O_ask 69 = .ok (.lload 4, 2) := by decide +kernel
theorem d_O_ask_71 : decode b_O_ask 71 = .ok (.lastore, 1) := by decide +kernel
theorem d_O_ask_72 : decode b_O_ask 72 = .ok (.aload_n 0, 1) := by decide +kernel
theorem d_O_ask_73 : decode b_O_ask 73 = .ok (.dup, 1) := by decide +kernel
theorem d_O_ask_74 : decode b_O_ask 74 = .ok (.getfield 85, 3) := by decide +kernel
theorem d_O_ask_77 : decode b_O_ask 77 = .ok (.iconst 1, 1) := by decide +kernel
theorem d_O_ask_78 : decode b_O_ask 78 = .ok (.iadd, 1) := by decide +kernel
theorem d_O_ask_79 : decode b_O_ask 79 = .ok (.putfield 85, 3) := by decide +kernel
theorem d_O_ask_82 : decode b_O_ask 82 = .ok (.aload_n 0, 1) := by decide +kernel
theorem d_O_ask_83 : decode b_O_ask 83 = .ok (.getfield 85, 3) := by decide +kernel
theorem d_O_ask_86 : decode b_O_ask 86 = .ok (.iconst 1, 1) := by decide +kernel
theorem d_O_ask_87 : decode b_O_ask 87 = .ok (.isub, 1) := by decide +kernel
theorem d_O_ask_88 : decode b_O_ask 88 = .ok (.ireturn, 1) := by decide +kernel
def w_O_ask : List Cond := .code y_O_ask b_O_ask 6 (some .int) :: ([.fieldLink "PartShelvesModel" 85 "PartShelvesModel" "asks" "I", .methodLink "PartShelvesModel" 102 ⟨"PartShelvesModel", "isKind", "(I)Z"⟩, .static ⟨"PartShelvesModel", "isKind", "(I)Z"⟩, .initialized "PartShelvesModel", .code ⟨"PartShelvesModel", "isKind", "(I)Z"⟩ prog_9_method_4_code 1 (some .boolean), .constantLong "PartShelvesModel" 121 1000000, .methodLink "PartShelvesModel" 93 ⟨"PartShelvesModel", "isIn", "(JJJ)Z"⟩, .static ⟨"PartShelvesModel", "isIn", "(JJJ)Z"⟩, .code ⟨"PartShelvesModel", "isIn", "(JJJ)Z"⟩ prog_9_method_3_code 6 (some .boolean), .constantLong "PartShelvesModel" 106 1000000000, .fieldLink "PartShelvesModel" 39 "PartShelvesModel" "products" "[I", .fieldLink "PartShelvesModel" 42 "PartShelvesModel" "cents" "[J", .fieldLink "PartShelvesModel" 45 "PartShelvesModel" "minutes" "[J"] ++ u_ws R_O F_O 36)
set_option maxRecDepth 20000 in
theorem g_O_ask_isKind : GoodIn w_O_ask (wsS R_O 102 y_O_isKind w_O_isKind) := goodIn_p _ [5] rfl (by decide +kernel)
set_option maxRecDepth 20000 in
theorem g_O_ask_isIn : GoodIn w_O_ask (wsS R_O 93 y_O_isIn w_O_isIn) := goodIn_p _ [9] rfl (by decide +kernel)
set_option maxHeartbeats 4000000 in
set_option maxRecDepth 100000 in
theorem c_O_ask (l : Launch) (D : va_G) (kC : Nat → ClassId) (ad : Nat → Nat) (td : Nat) (rn : Nat) (pn : Nat) (an : Nat) (jn : Nat) (tn : Nat) (bm : Int32) (fw : Int64) (gp : Nat) (ga : Nat) (bp : Int32) (fc : Int64) (fj : Nat) (rA : Nat → Nat) (rC : Nat → Nat) (ft : Nat → Int32) (kd : Nat → Nat) (aG : Nat → Nat) (sR : Nat → Nat) (sT : Nat → Nat) (wh : Nat → Nat) (dY : Nat → Nat) (pd : Nat → Nat) (cN : Nat → Nat) (mN : Nat → Nat) (sv : Nat → Int32) (nd : Nat → Nat) (wr : Nat → Nat) (tl : Nat → Nat) (lt : Nat → Int32) (lT : Nat → Nat) (lD : Nat → Nat) (gv : Nat → Int32) (gn : Nat → Int64) (od : Nat → Nat) (br : Nat → Nat) (x : Int32) (v : Int64) (u : Int64) (sz : Nat) (han : an ≤ 8) : Met l y_O_ask w_O_ask ({ frames := 1, cells := 0, slots := 0, locals := 25 } : Room) (gPre cls D (tyL kC) [.ref (ad 0), .int x, .long v, .long u] (fl [(wO kC ad td rn pn an jn tn bm fw gp ga bp fc fj rA rC ft kd aG sR sT wh dY pd cN mN sv nd wr tl lt lT lD gv gn od br)]) sz) (gQi cls D (tyL kC) (fl [(wO kC ad td rn pn an jn tn bm fw gp ga bp fc fj rA rC ft kd aG sR sT wh dY pd cN mN sv nd wr tl lt lT lD gv gn od br)]) sz (if (an < 8 ∧ inR x 6 ∧ inL 0 1000000 v ∧ inL 0 1000000000 u) then nI an else -1) (fl [(wO kC ad td rn pn (if (an < 8 ∧ inR x 6 ∧ inL 0 1000000 v ∧ inL 0 1000000000 u) then an + 1 else an) jn tn bm fw gp ga bp fc fj rA rC ft kd aG sR sT wh dY (if (an < 8 ∧ inR x 6 ∧ inL 0 1000000 v ∧ inL 0 1000000000 u) then updN pd an (nOf x) else pd) (if (an < 8 ∧ inR x 6 ∧ inL 0 1000000 v ∧ inL 0 1000000000 u) then updN cN an (nOfL v) else cN) (if (an < 8 ∧ inR x 6 ∧ inL 0 1000000 v ∧ inL 0 1000000000 u) then updN mN an (nOfL u) else mN) sv nd wr tl lt lT lD gv gn od br)])) 0 0 (va_A (fl [(wO kC ad td rn pn an jn tn bm fw gp ga bp fc fj rA rC ft kd aG sR sT wh dY pd cN mN sv nd wr tl lt lT lD gv gn od br)]) sz) := by
  refine Met.ofW (cc := b_O_ask) (maxL := 6) (ret := (some .int)) (by decide) rfl ?_
  intro p e s m args below meth c s₁ B hml hv
  obtain ⟨rfl, hsz, hP, hK, hD0⟩ := hv
  have hx := B.exec
  have hb := B.bytes
  have hr := B.returns
  have hts := atoms_spec (ws := w_O_ask) B.pre
  have hown : s.vm.findClass R_O = some m.cls := findClass_of_methodNamed B.named
  have hlocks := B.notSynchronized
  subst hsz
  obtain ⟨A, hAe⟩ : ∃ A : Nat → Prop, A = va_A (fl [(wO kC ad td rn pn an jn tn bm fw gp ga bp fc fj rA rC ft kd aG sR sT wh dY pd cN mN sv nd wr tl lt lT lD gv gn od br)]) s.heap.size := ⟨_, rfl⟩
  have hD : va_D A (fl [(wO kC ad td rn pn an jn tn bm fw gp ga bp fc fj rA rC ft kd aG sR sT wh dY pd cN mN sv nd wr tl lt lT lD gv gn od br)]) := by rw [hAe]; exact hD0.self
  have hA : ∀ q : Nat, s.heap.size ≤ q → A q := fun q h => by rw [hAe]; exact Or.inr h
  have hS : va_S A s.heap s.heap [] := va_S.rf
  have hl := lv_entry ([.ref (ad 0), .int x, .long v, .long u]) (n := 6) (Nat.le_of_ble_eq_true rfl)
  rw [lg_entry_eq]
  generalize (lg_sl ([.ref (ad 0), .int x, .long v, .long u]) ++ List.replicate (6 - (lg_sl ([.ref (ad 0), .int x, .long v, .long u])).length) Slot.unset).toArray = ls at hl ⊢
  have hl : lv_has ls 6 [(0, .ref (ad 0)), (1, .int x), (2, .long v), (4, .long u)] := hl
  refine lv_aload_n hx hb d_O_ask_0 rfl (lv_at hl 0 rfl) ?_
  refine fv_get (ci := 7) (v := .int (nI an)) (C := R_O) (T := F_O) (N := 36) hx hb hts (by decide +kernel) hown hK hP 0 0 rfl rfl rfl 12 (by decide) (hts (.fieldLink R_O 85 "PartShelvesModel" "asks" "I") (by decide +kernel)) (fun _ h9 => h9) rfl d_O_ask_1 ?_
  refine lv_bipush (v := nI 8) hx hb d_O_ask_4 (by decide +kernel) ?_
  refine nv_icmp_eq (tgt := 39) hx hb d_O_ask_6 (by decide) (by omega) (by omega) (fun h1 => ?_) (fun h1 => ?_)
  · have hC : ¬ (an < 8 ∧ inR x 6 ∧ inL 0 1000000 v ∧ inL 0 1000000000 u) := fun q => by first | exact absurd q.2.2.2 (bI_0.mp h4) | exact absurd q.2.2.1 (bI_0.mp h3) | exact absurd q.2.1 (bI_0.mp h2) | (have := q.1; omega)
    refine lv_iconst (v := (-1)) hx hb d_O_ask_39 (by decide) ?_
    have ew1 : pd = (if (an < 8 ∧ inR x 6 ∧ inL 0 1000000 v ∧ inL 0 1000000000 u) then updN pd an (nOf x) else pd) := (if_neg hC).symm
    have hP : va_P D cls (fl [(wO kC ad td rn pn an jn tn bm fw gp ga bp fc fj rA rC ft kd aG sR sT wh dY (if (an < 8 ∧ inR x 6 ∧ inL 0 1000000 v ∧ inL 0 1000000000 u) then updN pd an (nOf x) else pd) cN mN sv nd wr tl lt lT lD gv gn od br)]) s.heap := by rw [← ew1]; exact hP
    have hD : va_D A (fl [(wO kC ad td rn pn an jn tn bm fw gp ga bp fc fj rA rC ft kd aG sR sT wh dY (if (an < 8 ∧ inR x 6 ∧ inL 0 1000000 v ∧ inL 0 1000000000 u) then updN pd an (nOf x) else pd) cN mN sv nd wr tl lt lT lD gv gn od br)]) := by rw [← ew1]; exact hD
    have ew2 : cN = (if (an < 8 ∧ inR x 6 ∧ inL 0 1000000 v ∧ inL 0 1000000000 u) then updN cN an (nOfL v) else cN) := (if_neg hC).symm
    have hP : va_P D cls (fl [(wO kC ad td rn pn an jn tn bm fw gp ga bp fc fj rA rC ft kd aG sR sT wh dY (if (an < 8 ∧ inR x 6 ∧ inL 0 1000000 v ∧ inL 0 1000000000 u) then updN pd an (nOf x) else pd) (if (an < 8 ∧ inR x 6 ∧ inL 0 1000000 v ∧ inL 0 1000000000 u) then updN cN an (nOfL v) else cN) mN sv nd wr tl lt lT lD gv gn od br)]) s.heap := by rw [← ew2]; exact hP
    have hD : va_D A (fl [(wO kC ad td rn pn an jn tn bm fw gp ga bp fc fj rA rC ft kd aG sR sT wh dY (if (an < 8 ∧ inR x 6 ∧ inL 0 1000000 v ∧ inL 0 1000000000 u) then updN pd an (nOf x) else pd) (if (an < 8 ∧ inR x 6 ∧ inL 0 1000000 v ∧ inL 0 1000000000 u) then updN cN an (nOfL v) else cN) mN sv nd wr tl lt lT lD gv gn od br)]) := by rw [← ew2]; exact hD
    have ew3 : mN = (if (an < 8 ∧ inR x 6 ∧ inL 0 1000000 v ∧ inL 0 1000000000 u) then updN mN an (nOfL u) else mN) := (if_neg hC).symm
    have hP : va_P D cls (fl [(wO kC ad td rn pn an jn tn bm fw gp ga bp fc fj rA rC ft kd aG sR sT wh dY (if (an < 8 ∧ inR x 6 ∧ inL 0 1000000 v ∧ inL 0 1000000000 u) then updN pd an (nOf x) else pd) (if (an < 8 ∧ inR x 6 ∧ inL 0 1000000 v ∧ inL 0 1000000000 u) then updN cN an (nOfL v) else cN) (if (an < 8 ∧ inR x 6 ∧ inL 0 1000000 v ∧ inL 0 1000000000 u) then updN mN an (nOfL u) else mN) sv nd wr tl lt lT lD gv gn od br)]) s.heap := by rw [← ew3]; exact hP
    have hD : va_D A (fl [(wO kC ad td rn pn an jn tn bm fw gp ga bp fc fj rA rC ft kd aG sR sT wh dY (if (an < 8 ∧ inR x 6 ∧ inL 0 1000000 v ∧ inL 0 1000000000 u) then updN pd an (nOf x) else pd) (if (an < 8 ∧ inR x 6 ∧ inL 0 1000000 v ∧ inL 0 1000000000 u) then updN cN an (nOfL v) else cN) (if (an < 8 ∧ inR x 6 ∧ inL 0 1000000 v ∧ inL 0 1000000000 u) then updN mN an (nOfL u) else mN) sv nd wr tl lt lT lD gv gn od br)]) := by rw [← ew3]; exact hD
    have ew4 : an = (if (an < 8 ∧ inR x 6 ∧ inL 0 1000000 v ∧ inL 0 1000000000 u) then an + 1 else an) := (if_neg hC).symm
    have hP : va_P D cls (fl [(wO kC ad td rn pn (if (an < 8 ∧ inR x 6 ∧ inL 0 1000000 v ∧ inL 0 1000000000 u) then an + 1 else an) jn tn bm fw gp ga bp fc fj rA rC ft kd aG sR sT wh dY (if (an < 8 ∧ inR x 6 ∧ inL 0 1000000 v ∧ inL 0 1000000000 u) then updN pd an (nOf x) else pd) (if (an < 8 ∧ inR x 6 ∧ inL 0 1000000 v ∧ inL 0 1000000000 u) then updN cN an (nOfL v) else cN) (if (an < 8 ∧ inR x 6 ∧ inL 0 1000000 v ∧ inL 0 1000000000 u) then updN mN an (nOfL u) else mN) sv nd wr tl lt lT lD gv gn od br)]) s.heap := by rw [← ew4]; exact hP
    have hD : va_D A (fl [(wO kC ad td rn pn (if (an < 8 ∧ inR x 6 ∧ inL 0 1000000 v ∧ inL 0 1000000000 u) then an + 1 else an) jn tn bm fw gp ga bp fc fj rA rC ft kd aG sR sT wh dY (if (an < 8 ∧ inR x 6 ∧ inL 0 1000000 v ∧ inL 0 1000000000 u) then updN pd an (nOf x) else pd) (if (an < 8 ∧ inR x 6 ∧ inL 0 1000000 v ∧ inL 0 1000000000 u) then updN cN an (nOfL v) else cN) (if (an < 8 ∧ inR x 6 ∧ inL 0 1000000 v ∧ inL 0 1000000000 u) then updN mN an (nOfL u) else mN) sv nd wr tl lt lT lD gv gn od br)]) := by rw [← ew4]; exact hD
    exact W.iret (v := (-1)) hx hb hr (fun t ht hW => by subst hAe; exact ⟨⟨(-1), (), rfl, (if_neg hC).symm, by rw [ht]; exact hP, va_K.moved hW.alike hK, hD⟩, hS.F ht⟩) (by subst hAe; exact hS.2.2) d_O_ask_40
  · refine lv_iload_n hx hb d_O_ask_9 rfl (lv_at hl 1 rfl) ?_
    refine r_calli (W.runS (As := [.int x]) (rest := []) ⟨hx, hb, hml, hown, hts⟩ (c_O_isKind l x) (cwS 1 hts g_O_ask_isKind rfl rfl rfl (by decide +kernel) ⟨Nat.le_of_ble_eq_true rfl, Nat.le_of_ble_eq_true rfl⟩) p0_preS rfl rfl hl.1 rfl (lv_room (Nat.le_of_ble_eq_true rfl)) d_O_ask_10 ⟨Nat.le_of_ble_eq_true rfl, Nat.le_of_ble_eq_true rfl⟩) ?_
    refine lv_if_eq (tgt := 39) hx hb d_O_ask_13 (by decide) (fun h2 => ?_) (fun h2 => ?_)
    · have hC : ¬ (an < 8 ∧ inR x 6 ∧ inL 0 1000000 v ∧ inL 0 1000000000 u) := fun q => by first | exact absurd q.2.2.2 (bI_0.mp h4) | exact absurd q.2.2.1 (bI_0.mp h3) | exact absurd q.2.1 (bI_0.mp h2) | (have := q.1; omega)
      refine lv_iconst (v := (-1)) hx hb d_O_ask_39 (by decide) ?_
      have ew5 : pd = (if (an < 8 ∧ inR x 6 ∧ inL 0 1000000 v ∧ inL 0 1000000000 u) then updN pd an (nOf x) else pd) := (if_neg hC).symm
      have hP : va_P D cls (fl [(wO kC ad td rn pn an jn tn bm fw gp ga bp fc fj rA rC ft kd aG sR sT wh dY (if (an < 8 ∧ inR x 6 ∧ inL 0 1000000 v ∧ inL 0 1000000000 u) then updN pd an (nOf x) else pd) cN mN sv nd wr tl lt lT lD gv gn od br)]) s.heap := by rw [← ew5]; exact hP
      have hD : va_D A (fl [(wO kC ad td rn pn an jn tn bm fw gp ga bp fc fj rA rC ft kd aG sR sT wh dY (if (an < 8 ∧ inR x 6 ∧ inL 0 1000000 v ∧ inL 0 1000000000 u) then updN pd an (nOf x) else pd) cN mN sv nd wr tl lt lT lD gv gn od br)]) := by rw [← ew5]; exact hD
      have ew6 : cN = (if (an < 8 ∧ inR x 6 ∧ inL 0 1000000 v ∧ inL 0 1000000000 u) then updN cN an (nOfL v) else cN) := (if_neg hC).symm
      have hP : va_P D cls (fl [(wO kC ad td rn pn an jn tn bm fw gp ga bp fc fj rA rC ft kd aG sR sT wh dY (if (an < 8 ∧ inR x 6 ∧ inL 0 1000000 v ∧ inL 0 1000000000 u) then updN pd an (nOf x) else pd) (if (an < 8 ∧ inR x 6 ∧ inL 0 1000000 v ∧ inL 0 1000000000 u) then updN cN an (nOfL v) else cN) mN sv nd wr tl lt lT lD gv gn od br)]) s.heap := by rw [← ew6]; exact hP
      have hD : va_D A (fl [(wO kC ad td rn pn an jn tn bm fw gp ga bp fc fj rA rC ft kd aG sR sT wh dY (if (an < 8 ∧ inR x 6 ∧ inL 0 1000000 v ∧ inL 0 1000000000 u) then updN pd an (nOf x) else pd) (if (an < 8 ∧ inR x 6 ∧ inL 0 1000000 v ∧ inL 0 1000000000 u) then updN cN an (nOfL v) else cN) mN sv nd wr tl lt lT lD gv gn od br)]) := by rw [← ew6]; exact hD
      have ew7 : mN = (if (an < 8 ∧ inR x 6 ∧ inL 0 1000000 v ∧ inL 0 1000000000 u) then updN mN an (nOfL u) else mN) := (if_neg hC).symm
      have hP : va_P D cls (fl [(wO kC ad td rn pn an jn tn bm fw gp ga bp fc fj rA rC ft kd aG sR sT wh dY (if (an < 8 ∧ inR x 6 ∧ inL 0 1000000 v ∧ inL 0 1000000000 u) then updN pd an (nOf x) else pd) (if (an < 8 ∧ inR x 6 ∧ inL 0 1000000 v ∧ inL 0 1000000000 u) then updN cN an (nOfL v) else cN) (if (an < 8 ∧ inR x 6 ∧ inL 0 1000000 v ∧ inL 0 1000000000 u) then updN mN an (nOfL u) else mN) sv nd wr tl lt lT lD gv gn od br)]) s.heap := by rw [← ew7]; exact hP
      have hD : va_D A (fl [(wO kC ad td rn pn an jn tn bm fw gp ga bp fc fj rA rC ft kd aG sR sT wh dY (if (an < 8 ∧ inR x 6 ∧ inL 0 1000000 v ∧ inL 0 1000000000 u) then updN pd an (nOf x) else pd) (if (an < 8 ∧ inR x 6 ∧ inL 0 1000000 v ∧ inL 0 1000000000 u) then updN cN an (nOfL v) else cN) (if (an < 8 ∧ inR x 6 ∧ inL 0 1000000 v ∧ inL 0 1000000000 u) then updN mN an (nOfL u) else mN) sv nd wr tl lt lT lD gv gn od br)]) := by rw [← ew7]; exact hD
      have ew8 : an = (if (an < 8 ∧ inR x 6 ∧ inL 0 1000000 v ∧ inL 0 1000000000 u) then an + 1 else an) := (if_neg hC).symm
      have hP : va_P D cls (fl [(wO kC ad td rn pn (if (an < 8 ∧ inR x 6 ∧ inL 0 1000000 v ∧ inL 0 1000000000 u) then an + 1 else an) jn tn bm fw gp ga bp fc fj rA rC ft kd aG sR sT wh dY (if (an < 8 ∧ inR x 6 ∧ inL 0 1000000 v ∧ inL 0 1000000000 u) then updN pd an (nOf x) else pd) (if (an < 8 ∧ inR x 6 ∧ inL 0 1000000 v ∧ inL 0 1000000000 u) then updN cN an (nOfL v) else cN) (if (an < 8 ∧ inR x 6 ∧ inL 0 1000000 v ∧ inL 0 1000000000 u) then updN mN an (nOfL u) else mN) sv nd wr tl lt lT lD gv gn od br)]) s.heap := by rw [← ew8]; exact hP
      have hD : va_D A (fl [(wO kC ad td rn pn (if (an < 8 ∧ inR x 6 ∧ inL 0 1000000 v ∧ inL 0 1000000000 u) then an + 1 else an) jn tn bm fw gp ga bp fc fj rA rC ft kd aG sR sT wh dY (if (an < 8 ∧ inR x 6 ∧ inL 0 1000000 v ∧ inL 0 1000000000 u) then updN pd an (nOf x) else pd) (if (an < 8 ∧ inR x 6 ∧ inL 0 1000000 v ∧ inL 0 1000000000 u) then updN cN an (nOfL v) else cN) (if (an < 8 ∧ inR x 6 ∧ inL 0 1000000 v ∧ inL 0 1000000000 u) then updN mN an (nOfL u) else mN) sv nd wr tl lt lT lD gv gn od br)]) := by rw [← ew8]; exact hD
      exact W.iret (v := (-1)) hx hb hr (fun t ht hW => by subst hAe; exact ⟨⟨(-1), (), rfl, (if_neg hC).symm, by rw [ht]; exact hP, va_K.moved hW.alike hK, hD⟩, hS.F ht⟩) (by subst hAe; exact hS.2.2) d_O_ask_40
    · have h2 := bI_n0.mp h2
      refine lv_lload_n hx hb d_O_ask_16 rfl (lv_at hl 2 rfl) ?_
      refine lv_lconst (v := lN 0) hx hb d_O_ask_17 (by decide) ?_
      refine lv_ldc2 (v := 1000000) hx hb hown (hts (.constantLong R_O 121 1000000) (by decide +kernel)) d_O_ask_18 ?_
      refine nv_topl (y := lN 1000000) (by decide +kernel) ?_
      refine r_calli (W.runS (As := [.long v, .long (lN 0), .long (lN 1000000)]) (rest := []) ⟨hx, hb, hml, hown, hts⟩ (c_O_isIn l v 0 1000000 (by decide) (by decide)) (cwS 3 hts g_O_ask_isIn rfl rfl rfl (by decide +kernel) ⟨Nat.le_of_ble_eq_true rfl, Nat.le_of_ble_eq_true rfl⟩) p0_preS rfl rfl hl.1 rfl (lv_room (Nat.le_of_ble_eq_true rfl)) d_O_ask_21 ⟨Nat.le_of_ble_eq_true rfl, Nat.le_of_ble_eq_true rfl⟩) ?_
      refine lv_if_eq (tgt := 39) hx hb d_O_ask_24 (by decide) (fun h3 => ?_) (fun h3 => ?_)
      · have hC : ¬ (an < 8 ∧ inR x 6 ∧ inL 0 1000000 v ∧ inL 0 1000000000 u) := fun q => by first | exact absurd q.2.2.2 (bI_0.mp h4) | exact absurd q.2.2.1 (bI_0.mp h3) | exact absurd q.2.1 (bI_0.mp h2) | (have := q.1; omega)
        refine lv_iconst (v := (-1)) hx hb d_O_ask_39 (by decide) ?_
        have ew9 : pd = (if (an < 8 ∧ inR x 6 ∧ inL 0 1000000 v ∧ inL 0 1000000000 u) then updN pd an (nOf x) else pd) := (if_neg hC).symm
        have hP : va_P D cls (fl [(wO kC ad td rn pn an jn tn bm fw gp ga bp fc fj rA rC ft kd aG sR sT wh dY (if (an < 8 ∧ inR x 6 ∧ inL 0 1000000 v ∧ inL 0 1000000000 u) then updN pd an (nOf x) else pd) cN mN sv nd wr tl lt lT lD gv gn od br)]) s.heap := by rw [← ew9]; exact hP
        have hD : va_D A (fl [(wO kC ad td rn pn an jn tn bm fw gp ga bp fc fj rA rC ft kd aG sR sT wh dY (if (an < 8 ∧ inR x 6 ∧ inL 0 1000000 v ∧ inL 0 1000000000 u) then updN pd an (nOf x) else pd) cN mN sv nd wr tl lt lT lD gv gn od br)]) := by rw [← ew9]; exact hD
        have ew10 : cN = (if (an < 8 ∧ inR x 6 ∧ inL 0 1000000 v ∧ inL 0 1000000000 u) then updN cN an (nOfL v) else cN) := (if_neg hC).symm
        have hP : va_P D cls (fl [(wO kC ad td rn pn an jn tn bm fw gp ga bp fc fj rA rC ft kd aG sR sT wh dY (if (an < 8 ∧ inR x 6 ∧ inL 0 1000000 v ∧ inL 0 1000000000 u) then updN pd an (nOf x) else pd) (if (an < 8 ∧ inR x 6 ∧ inL 0 1000000 v ∧ inL 0 1000000000 u) then updN cN an (nOfL v) else cN) mN sv nd wr tl lt lT lD gv gn od br)]) s.heap := by rw [← ew10]; exact hP
        have hD : va_D A (fl [(wO kC ad td rn pn an jn tn bm fw gp ga bp fc fj rA rC ft kd aG sR sT wh dY (if (an < 8 ∧ inR x 6 ∧ inL 0 1000000 v ∧ inL 0 1000000000 u) then updN pd an (nOf x) else pd) (if (an < 8 ∧ inR x 6 ∧ inL 0 1000000 v ∧ inL 0 1000000000 u) then updN cN an (nOfL v) else cN) mN sv nd wr tl lt lT lD gv gn od br)]) := by rw [← ew10]; exact hD
        have ew11 : mN = (if (an < 8 ∧ inR x 6 ∧ inL 0 1000000 v ∧ inL 0 1000000000 u) then updN mN an (nOfL u) else mN) := (if_neg hC).symm
        have hP : va_P D cls (fl [(wO kC ad td rn pn an jn tn bm fw gp ga bp fc fj rA rC ft kd aG sR sT wh dY (if (an < 8 ∧ inR x 6 ∧ inL 0 1000000 v ∧ inL 0 1000000000 u) then updN pd an (nOf x) else pd) (if (an < 8 ∧ inR x 6 ∧ inL 0 1000000 v ∧ inL 0 1000000000 u) then updN cN an (nOfL v) else cN) (if (an < 8 ∧ inR x 6 ∧ inL 0 1000000 v ∧ inL 0 1000000000 u) then updN mN an (nOfL u) else mN) sv nd wr tl lt lT lD gv gn od br)]) s.heap := by rw [← ew11]; exact hP
        have hD : va_D A (fl [(wO kC ad td rn pn an jn tn bm fw gp ga bp fc fj rA rC ft kd aG sR sT wh dY (if (an < 8 ∧ inR x 6 ∧ inL 0 1000000 v ∧ inL 0 1000000000 u) then updN pd an (nOf x) else pd) (if (an < 8 ∧ inR x 6 ∧ inL 0 1000000 v ∧ inL 0 1000000000 u) then updN cN an (nOfL v) else cN) (if (an < 8 ∧ inR x 6 ∧ inL 0 1000000 v ∧ inL 0 1000000000 u) then updN mN an (nOfL u) else mN) sv nd wr tl lt lT lD gv gn od br)]) := by rw [← ew11]; exact hD
        have ew12 : an = (if (an < 8 ∧ inR x 6 ∧ inL 0 1000000 v ∧ inL 0 1000000000 u) then an + 1 else an) := (if_neg hC).symm
        have hP : va_P D cls (fl [(wO kC ad td rn pn (if (an < 8 ∧ inR x 6 ∧ inL 0 1000000 v ∧ inL 0 1000000000 u) then an + 1 else an) jn tn bm fw gp ga bp fc fj rA rC ft kd aG sR sT wh dY (if (an < 8 ∧ inR x 6 ∧ inL 0 1000000 v ∧ inL 0 1000000000 u) then updN pd an (nOf x) else pd) (if (an < 8 ∧ inR x 6 ∧ inL 0 1000000 v ∧ inL 0 1000000000 u) then updN cN an (nOfL v) else cN) (if (an < 8 ∧ inR x 6 ∧ inL 0 1000000 v ∧ inL 0 1000000000 u) then updN mN an (nOfL u) else mN) sv nd wr tl lt lT lD gv gn od br)]) s.heap := by rw [← ew12]; exact hP
        have hD : va_D A (fl [(wO kC ad td rn pn (if (an < 8 ∧ inR x 6 ∧ inL 0 1000000 v ∧ inL 0 1000000000 u) then an + 1 else an) jn tn bm fw gp ga bp fc fj rA rC ft kd aG sR sT wh dY (if (an < 8 ∧ inR x 6 ∧ inL 0 1000000 v ∧ inL 0 1000000000 u) then updN pd an (nOf x) else pd) (if (an < 8 ∧ inR x 6 ∧ inL 0 1000000 v ∧ inL 0 1000000000 u) then updN cN an (nOfL v) else cN) (if (an < 8 ∧ inR x 6 ∧ inL 0 1000000 v ∧ inL 0 1000000000 u) then updN mN an (nOfL u) else mN) sv nd wr tl lt lT lD gv gn od br)]) := by rw [← ew12]; exact hD
        exact W.iret (v := (-1)) hx hb hr (fun t ht hW => by subst hAe; exact ⟨⟨(-1), (), rfl, (if_neg hC).symm, by rw [ht]; exact hP, va_K.moved hW.alike hK, hD⟩, hS.F ht⟩) (by subst hAe; exact hS.2.2) d_O_ask_40
      · have h3 := bI_n0.mp h3
        refine lv_lload hx hb d_O_ask_27 (lv_at hl 3 rfl) ?_
        refine lv_lconst (v := lN 0) hx hb d_O_ask_29 (by decide) ?_
        refine lv_ldc2 (v := 1000000000) hx hb hown (hts (.constantLong R_O 106 1000000000) (by decide +kernel)) d_O_ask_30 ?_
        refine nv_topl (y := lN 1000000000) (by decide +kernel) ?_
        refine r_calli (W.runS (As := [.long u, .long (lN 0), .long (lN 1000000000)]) (rest := []) ⟨hx, hb, hml, hown, hts⟩ (c_O_isIn l u 0 1000000000 (by decide) (by decide)) (cwS 3 hts g_O_ask_isIn rfl rfl rfl (by decide +kernel) ⟨Nat.le_of_ble_eq_true rfl, Nat.le_of_ble_eq_true rfl⟩) p0_preS rfl rfl hl.1 rfl (lv_room (Nat.le_of_ble_eq_true rfl)) d_O_ask_33 ⟨Nat.le_of_ble_eq_true rfl, Nat.le_of_ble_eq_true rfl⟩) ?_
        refine lv_if_ne (tgt := 41) hx hb d_O_ask_36 (by decide) (fun h4 => ?_) (fun h4 => ?_)
        · have h4 := bI_n0.mp h4
          have hC : (an < 8 ∧ inR x 6 ∧ inL 0 1000000 v ∧ inL 0 1000000000 u) := ⟨by omega, h2, h3, h4⟩
          obtain ⟨j, hj, rfl⟩ := inR_n (by decide) h2
          obtain ⟨k, hk1, hk2, rfl⟩ := inL_n (by decide) h3
          obtain ⟨i, hi1, hi2, rfl⟩ := inL_n (by decide) h4
          refine lv_aload_n hx hb d_O_ask_41 rfl (lv_at hl 0 rfl) ?_
          refine fv_get (ci := 7) (v := .ref (ad 10)) (C := R_O) (T := F_O) (N := 36) hx hb hts (by decide +kernel) hown hK hP 0 0 rfl rfl rfl 13 (by decide) (hts (.fieldLink R_O 39 "PartShelvesModel" "products" "[I") (by decide +kernel)) (fun _ h9 => h9) rfl d_O_ask_42 ?_
          refine lv_aload_n hx hb d_O_ask_45 rfl (lv_at hl 0 rfl) ?_
          refine fv_get (ci := 7) (v := .int (nI an)) (C := R_O) (T := F_O) (N := 36) hx hb hts (by decide +kernel) hown hK hP 0 0 rfl rfl rfl 12 (by decide) (hts (.fieldLink R_O 85 "PartShelvesModel" "asks" "I") (by decide +kernel)) (fun _ h9 => h9) rfl d_O_ask_46 ?_
          refine lv_iload_n hx hb d_O_ask_49 rfl (lv_at hl 1 rfl) ?_
          refine fa_iastN hx hb hK hP hD hS 0 10 0 rfl rfl rfl (by omega) (by decide) d_O_ask_50 (fun H locs hP hD hS => ?_)
          have hP : va_P D cls (fl [(wO kC ad td rn pn an jn tn bm fw gp ga bp fc fj rA rC ft kd aG sR sT wh dY (updN pd an j) cN mN sv nd wr tl lt lT lD gv gn od br)]) H := hP
          have hD : va_D A (fl [(wO kC ad td rn pn an jn tn bm fw gp ga bp fc fj rA rC ft kd aG sR sT wh dY (updN pd an j) cN mN sv nd wr tl lt lT lD gv gn od br)]) := hD
          refine lv_aload_n hx hb d_O_ask_51 rfl (lv_at hl 0 rfl) ?_
          refine fv_get (ci := 7) (v := .ref (ad 11)) (C := R_O) (T := F_O) (N := 36) hx hb hts (by decide +kernel) hown hK hP 0 0 rfl rfl rfl 14 (by decide) (hts (.fieldLink R_O 42 "PartShelvesModel" "cents" "[J") (by decide +kernel)) (fun _ h9 => h9) rfl d_O_ask_52 ?_
          refine lv_aload_n hx hb d_O_ask_55 rfl (lv_at hl 0 rfl) ?_
          refine fv_get (ci := 7) (v := .int (nI an)) (C := R_O) (T := F_O) (N := 36) hx hb hts (by decide +kernel) hown hK hP 0 0 rfl rfl rfl 12 (by decide) (hts (.fieldLink R_O 85 "PartShelvesModel" "asks" "I") (by decide +kernel)) (fun _ h9 => h9) rfl d_O_ask_56 ?_
          refine lv_lload_n hx hb d_O_ask_59 rfl (lv_at hl 2 rfl) ?_
          refine fa_lastN hx hb hK hP hD hS 0 11 1 rfl rfl rfl (by omega) (by decide) d_O_ask_60 (fun H locs hP hD hS => ?_)
          have hP : va_P D cls (fl [(wO kC ad td rn pn an jn tn bm fw gp ga bp fc fj rA rC ft kd aG sR sT wh dY (updN pd an j) (updN cN an k) mN sv nd wr tl lt lT lD gv gn od br)]) H := hP
          have hD : va_D A (fl [(wO kC ad td rn pn an jn tn bm fw gp ga bp fc fj rA rC ft kd aG sR sT wh dY (updN pd an j) (updN cN an k) mN sv nd wr tl lt lT lD gv gn od br)]) := hD
          refine lv_aload_n hx hb d_O_ask_61 rfl (lv_at hl 0 rfl) ?_
          refine fv_get (ci := 7) (v := .ref (ad 12)) (C := R_O) (T := F_O) (N := 36) hx hb hts (by decide +kernel) hown hK hP 0 0 rfl rfl rfl 15 (by decide) (hts (.fieldLink R_O 45 "PartShelvesModel" "minutes" "[J") (by decide +kernel)) (fun _ h9 => h9) rfl d_O_ask_62 ?_
          refine lv_aload_n hx hb d_O_ask_65 rfl (lv_at hl 0 rfl) ?_
          refine fv_get (ci := 7) (v := .int (nI an)) (C := R_O) (T := F_O) (N := 36) hx hb hts (by decide +kernel) hown hK hP 0 0 rfl rfl rfl 12 (by decide) (hts (.fieldLink R_O 85 "PartShelvesModel" "asks" "I") (by decide +kernel)) (fun _ h9 => h9) rfl d_O_ask_66 ?_
          refine lv_lload hx hb d_O_ask_69 (lv_at hl 3 rfl) ?_
          refine fa_lastN hx hb hK hP hD hS 0 12 1 rfl rfl rfl (by omega) (by decide) d_O_ask_71 (fun H locs hP hD hS => ?_)
          have hP : va_P D cls (fl [(wO kC ad td rn pn an jn tn bm fw gp ga bp fc fj rA rC ft kd aG sR sT wh dY (updN pd an j) (updN cN an k) (updN mN an i) sv nd wr tl lt lT lD gv gn od br)]) H := hP
          have hD : va_D A (fl [(wO kC ad td rn pn an jn tn bm fw gp ga bp fc fj rA rC ft kd aG sR sT wh dY (updN pd an j) (updN cN an k) (updN mN an i) sv nd wr tl lt lT lD gv gn od br)]) := hD
          refine lv_aload_n hx hb d_O_ask_72 rfl (lv_at hl 0 rfl) ?_
          refine lv_dup hx hb d_O_ask_73 rfl ?_
          refine fv_get (ci := 7) (v := .int (nI an)) (C := R_O) (T := F_O) (N := 36) hx hb hts (by decide +kernel) hown hK hP 0 0 rfl rfl rfl 12 (by decide) (hts (.fieldLink R_O 85 "PartShelvesModel" "asks" "I") (by decide +kernel)) (fun _ h9 => h9) rfl d_O_ask_74 ?_
          refine lv_iconst (v := nI 1) hx hb d_O_ask_77 (by decide) ?_
          refine nv_iadd hx hb d_O_ask_78 ?_
          refine fv_put (ci := 7) (v := .int (nI (an + 1))) (ty := (.int)) (C := R_O) (T := F_O) (N := 36) hx hb hts (by decide +kernel) t_O t_O_ok n_O hown hK hP hD hS 0 0 rfl rfl rfl 12 (by decide) (hts (.fieldLink R_O 85 "PartShelvesModel" "asks" "I") (by decide +kernel)) (fun _ h9 => h9) rfl (by decide +kernel) (rfl) (rfl) (Nat.le_of_ble_eq_true rfl) d_O_ask_79 (fun H locs hP hD hS => ?_)
          have hP : va_P D cls (fl [(wO kC ad td rn pn (an + 1) jn tn bm fw gp ga bp fc fj rA rC ft kd aG sR sT wh dY (updN pd an j) (updN cN an k) (updN mN an i) sv nd wr tl lt lT lD gv gn od br)]) H := hP
          have hD : va_D A (fl [(wO kC ad td rn pn (an + 1) jn tn bm fw gp ga bp fc fj rA rC ft kd aG sR sT wh dY (updN pd an j) (updN cN an k) (updN mN an i) sv nd wr tl lt lT lD gv gn od br)]) := hD
          refine lv_aload_n hx hb d_O_ask_82 rfl (lv_at hl 0 rfl) ?_
          refine fv_get (ci := 7) (v := .int (nI (an + 1))) (C := R_O) (T := F_O) (N := 36) hx hb hts (by decide +kernel) hown hK hP 0 0 rfl rfl rfl 12 (by decide) (hts (.fieldLink R_O 85 "PartShelvesModel" "asks" "I") (by decide +kernel)) (fun _ h9 => h9) rfl d_O_ask_83 ?_
          refine lv_iconst (v := nI 1) hx hb d_O_ask_86 (by decide) ?_
          refine nv_isub hx hb d_O_ask_87 (by omega) ?_
          have ew13 : (updN pd an j) = (if (an < 8 ∧ inR (nI j) 6 ∧ inL 0 1000000 (lN k) ∧ inL 0 1000000000 (lN i)) then updN pd an (nOf (nI j)) else pd) := by rw [if_pos hC, nOf_nI (by omega)]
          have hP : va_P D cls (fl [(wO kC ad td rn pn (an + 1) jn tn bm fw gp ga bp fc fj rA rC ft kd aG sR sT wh dY (if (an < 8 ∧ inR (nI j) 6 ∧ inL 0 1000000 (lN k) ∧ inL 0 1000000000 (lN i)) then updN pd an (nOf (nI j)) else pd) (updN cN an k) (updN mN an i) sv nd wr tl lt lT lD gv gn od br)]) H := by rw [← ew13]; exact hP
          have hD : va_D A (fl [(wO kC ad td rn pn (an + 1) jn tn bm fw gp ga bp fc fj rA rC ft kd aG sR sT wh dY (if (an < 8 ∧ inR (nI j) 6 ∧ inL 0 1000000 (lN k) ∧ inL 0 1000000000 (lN i)) then updN pd an (nOf (nI j)) else pd) (updN cN an k) (updN mN an i) sv nd wr tl lt lT lD gv gn od br)]) := by rw [← ew13]; exact hD
          have ew14 : (updN cN an k) = (if (an < 8 ∧ inR (nI j) 6 ∧ inL 0 1000000 (lN k) ∧ inL 0 1000000000 (lN i)) then updN cN an (nOfL (lN k)) else cN) := by rw [if_pos hC, nOfL_lN (by omega)]
          have hP : va_P D cls (fl [(wO kC ad td rn pn (an + 1) jn tn bm fw gp ga bp fc fj rA rC ft kd aG sR sT wh dY (if (an < 8 ∧ inR (nI j) 6 ∧ inL 0 1000000 (lN k) ∧ inL 0 1000000000 (lN i)) then updN pd an (nOf (nI j)) else pd) (if (an < 8 ∧ inR (nI j) 6 ∧ inL 0 1000000 (lN k) ∧ inL 0 1000000000 (lN i)) then updN cN an (nOfL (lN k)) else cN) (updN mN an i) sv nd wr tl lt lT lD gv gn od br)]) H := by rw [← ew14]; exact hP
          have hD : va_D A (fl [(wO kC ad td rn pn (an + 1) jn tn bm fw gp ga bp fc fj rA rC ft kd aG sR sT wh dY (if (an < 8 ∧ inR (nI j) 6 ∧ inL 0 1000000 (lN k) ∧ inL 0 1000000000 (lN i)) then updN pd an (nOf (nI j)) else pd) (if (an < 8 ∧ inR (nI j) 6 ∧ inL 0 1000000 (lN k) ∧ inL 0 1000000000 (lN i)) then updN cN an (nOfL (lN k)) else cN) (updN mN an i) sv nd wr tl lt lT lD gv gn od br)]) := by rw [← ew14]; exact hD
          have ew15 : (updN mN an i) = (if (an < 8 ∧ inR (nI j) 6 ∧ inL 0 1000000 (lN k) ∧ inL 0 1000000000 (lN i)) then updN mN an (nOfL (lN i)) else mN) := by rw [if_pos hC, nOfL_lN (by omega)]
          have hP : va_P D cls (fl [(wO kC ad td rn pn (an + 1) jn tn bm fw gp ga bp fc fj rA rC ft kd aG sR sT wh dY (if (an < 8 ∧ inR (nI j) 6 ∧ inL 0 1000000 (lN k) ∧ inL 0 1000000000 (lN i)) then updN pd an (nOf (nI j)) else pd) (if (an < 8 ∧ inR (nI j) 6 ∧ inL 0 1000000 (lN k) ∧ inL 0 1000000000 (lN i)) then updN cN an (nOfL (lN k)) else cN) (if (an < 8 ∧ inR (nI j) 6 ∧ inL 0 1000000 (lN k) ∧ inL 0 1000000000 (lN i)) then updN mN an (nOfL (lN i)) else mN) sv nd wr tl lt lT lD gv gn od br)]) H := by rw [← ew15]; exact hP
          have hD : va_D A (fl [(wO kC ad td rn pn (an + 1) jn tn bm fw gp ga bp fc fj rA rC ft kd aG sR sT wh dY (if (an < 8 ∧ inR (nI j) 6 ∧ inL 0 1000000 (lN k) ∧ inL 0 1000000000 (lN i)) then updN pd an (nOf (nI j)) else pd) (if (an < 8 ∧ inR (nI j) 6 ∧ inL 0 1000000 (lN k) ∧ inL 0 1000000000 (lN i)) then updN cN an (nOfL (lN k)) else cN) (if (an < 8 ∧ inR (nI j) 6 ∧ inL 0 1000000 (lN k) ∧ inL 0 1000000000 (lN i)) then updN mN an (nOfL (lN i)) else mN) sv nd wr tl lt lT lD gv gn od br)]) := by rw [← ew15]; exact hD
          have ew16 : (an + 1) = (if (an < 8 ∧ inR (nI j) 6 ∧ inL 0 1000000 (lN k) ∧ inL 0 1000000000 (lN i)) then an + 1 else an) := by rw [if_pos hC]
          have hP : va_P D cls (fl [(wO kC ad td rn pn (if (an < 8 ∧ inR (nI j) 6 ∧ inL 0 1000000 (lN k) ∧ inL 0 1000000000 (lN i)) then an + 1 else an) jn tn bm fw gp ga bp fc fj rA rC ft kd aG sR sT wh dY (if (an < 8 ∧ inR (nI j) 6 ∧ inL 0 1000000 (lN k) ∧ inL 0 1000000000 (lN i)) then updN pd an (nOf (nI j)) else pd) (if (an < 8 ∧ inR (nI j) 6 ∧ inL 0 1000000 (lN k) ∧ inL 0 1000000000 (lN i)) then updN cN an (nOfL (lN k)) else cN) (if (an < 8 ∧ inR (nI j) 6 ∧ inL 0 1000000 (lN k) ∧ inL 0 1000000000 (lN i)) then updN mN an (nOfL (lN i)) else mN) sv nd wr tl lt lT lD gv gn od br)]) H := by rw [← ew16]; exact hP
          have hD : va_D A (fl [(wO kC ad td rn pn (if (an < 8 ∧ inR (nI j) 6 ∧ inL 0 1000000 (lN k) ∧ inL 0 1000000000 (lN i)) then an + 1 else an) jn tn bm fw gp ga bp fc fj rA rC ft kd aG sR sT wh dY (if (an < 8 ∧ inR (nI j) 6 ∧ inL 0 1000000 (lN k) ∧ inL 0 1000000000 (lN i)) then updN pd an (nOf (nI j)) else pd) (if (an < 8 ∧ inR (nI j) 6 ∧ inL 0 1000000 (lN k) ∧ inL 0 1000000000 (lN i)) then updN cN an (nOfL (lN k)) else cN) (if (an < 8 ∧ inR (nI j) 6 ∧ inL 0 1000000 (lN k) ∧ inL 0 1000000000 (lN i)) then updN mN an (nOfL (lN i)) else mN) sv nd wr tl lt lT lD gv gn od br)]) := by rw [← ew16]; exact hD
          exact W.iret (v := nI ((an + 1) - 1)) hx hb hr (fun t ht hW => by subst hAe; exact ⟨⟨(nI ((an + 1) - 1)), (), rfl, (if_pos hC).symm, by rw [ht]; exact hP, va_K.moved hW.alike hK, hD⟩, hS.F ht⟩) (by subst hAe; exact hS.2.2) d_O_ask_88
        · have hC : ¬ (an < 8 ∧ inR x 6 ∧ inL 0 1000000 v ∧ inL 0 1000000000 u) := fun q => by first | exact absurd q.2.2.2 (bI_0.mp h4) | exact absurd q.2.2.1 (bI_0.mp h3) | exact absurd q.2.1 (bI_0.mp h2) | (have := q.1; omega)
          refine lv_iconst (v := (-1)) hx hb d_O_ask_39 (by decide) ?_
          have ew17 : pd = (if (an < 8 ∧ inR x 6 ∧ inL 0 1000000 v ∧ inL 0 1000000000 u) then updN pd an (nOf x) else pd) := (if_neg hC).symm
          have hP : va_P D cls (fl [(wO kC ad td rn pn an jn tn bm fw gp ga bp fc fj rA rC ft kd aG sR sT wh dY (if (an < 8 ∧ inR x 6 ∧ inL 0 1000000 v ∧ inL 0 1000000000 u) then updN pd an (nOf x) else pd) cN mN sv nd wr tl lt lT lD gv gn od br)]) s.heap := by rw [← ew17]; exact hP
          have hD : va_D A (fl [(wO kC ad td rn pn an jn tn bm fw gp ga bp fc fj rA rC ft kd aG sR sT wh dY (if (an < 8 ∧ inR x 6 ∧ inL 0 1000000 v ∧ inL 0 1000000000 u) then updN pd an (nOf x) else pd) cN mN sv nd wr tl lt lT lD gv gn od br)]) := by rw [← ew17]; exact hD
          have ew18 : cN = (if (an < 8 ∧ inR x 6 ∧ inL 0 1000000 v ∧ inL 0 1000000000 u) then updN cN an (nOfL v) else cN) := (if_neg hC).symm
          have hP : va_P D cls (fl [(wO kC ad td rn pn an jn tn bm fw gp ga bp fc fj rA rC ft kd aG sR sT wh dY (if (an < 8 ∧ inR x 6 ∧ inL 0 1000000 v ∧ inL 0 1000000000 u) then updN pd an (nOf x) else pd) (if (an < 8 ∧ inR x 6 ∧ inL 0 1000000 v ∧ inL 0 1000000000 u) then updN cN an (nOfL v) else cN) mN sv nd wr tl lt lT lD gv gn od br)]) s.heap := by rw [← ew18]; exact hP
          have hD : va_D A (fl [(wO kC ad td rn pn an jn tn bm fw gp ga bp fc fj rA rC ft kd aG sR sT wh dY (if (an < 8 ∧ inR x 6 ∧ inL 0 1000000 v ∧ inL 0 1000000000 u) then updN pd an (nOf x) else pd) (if (an < 8 ∧ inR x 6 ∧ inL 0 1000000 v ∧ inL 0 1000000000 u) then updN cN an (nOfL v) else cN) mN sv nd wr tl lt lT lD gv gn od br)]) := by rw [← ew18]; exact hD
          have ew19 : mN = (if (an < 8 ∧ inR x 6 ∧ inL 0 1000000 v ∧ inL 0 1000000000 u) then updN mN an (nOfL u) else mN) := (if_neg hC).symm
          have hP : va_P D cls (fl [(wO kC ad td rn pn an jn tn bm fw gp ga bp fc fj rA rC ft kd aG sR sT wh dY (if (an < 8 ∧ inR x 6 ∧ inL 0 1000000 v ∧ inL 0 1000000000 u) then updN pd an (nOf x) else pd) (if (an < 8 ∧ inR x 6 ∧ inL 0 1000000 v ∧ inL 0 1000000000 u) then updN cN an (nOfL v) else cN) (if (an < 8 ∧ inR x 6 ∧ inL 0 1000000 v ∧ inL 0 1000000000 u) then updN mN an (nOfL u) else mN) sv nd wr tl lt lT lD gv gn od br)]) s.heap := by rw [← ew19]; exact hP
          have hD : va_D A (fl [(wO kC ad td rn pn an jn tn bm fw gp ga bp fc fj rA rC ft kd aG sR sT wh dY (if (an < 8 ∧ inR x 6 ∧ inL 0 1000000 v ∧ inL 0 1000000000 u) then updN pd an (nOf x) else pd) (if (an < 8 ∧ inR x 6 ∧ inL 0 1000000 v ∧ inL 0 1000000000 u) then updN cN an (nOfL v) else cN) (if (an < 8 ∧ inR x 6 ∧ inL 0 1000000 v ∧ inL 0 1000000000 u) then updN mN an (nOfL u) else mN) sv nd wr tl lt lT lD gv gn od br)]) := by rw [← ew19]; exact hD
          have ew20 : an = (if (an < 8 ∧ inR x 6 ∧ inL 0 1000000 v ∧ inL 0 1000000000 u) then an + 1 else an) := (if_neg hC).symm
          have hP : va_P D cls (fl [(wO kC ad td rn pn (if (an < 8 ∧ inR x 6 ∧ inL 0 1000000 v ∧ inL 0 1000000000 u) then an + 1 else an) jn tn bm fw gp ga bp fc fj rA rC ft kd aG sR sT wh dY (if (an < 8 ∧ inR x 6 ∧ inL 0 1000000 v ∧ inL 0 1000000000 u) then updN pd an (nOf x) else pd) (if (an < 8 ∧ inR x 6 ∧ inL 0 1000000 v ∧ inL 0 1000000000 u) then updN cN an (nOfL v) else cN) (if (an < 8 ∧ inR x 6 ∧ inL 0 1000000 v ∧ inL 0 1000000000 u) then updN mN an (nOfL u) else mN) sv nd wr tl lt lT lD gv gn od br)]) s.heap := by rw [← ew20]; exact hP
          have hD : va_D A (fl [(wO kC ad td rn pn (if (an < 8 ∧ inR x 6 ∧ inL 0 1000000 v ∧ inL 0 1000000000 u) then an + 1 else an) jn tn bm fw gp ga bp fc fj rA rC ft kd aG sR sT wh dY (if (an < 8 ∧ inR x 6 ∧ inL 0 1000000 v ∧ inL 0 1000000000 u) then updN pd an (nOf x) else pd) (if (an < 8 ∧ inR x 6 ∧ inL 0 1000000 v ∧ inL 0 1000000000 u) then updN cN an (nOfL v) else cN) (if (an < 8 ∧ inR x 6 ∧ inL 0 1000000 v ∧ inL 0 1000000000 u) then updN mN an (nOfL u) else mN) sv nd wr tl lt lT lD gv gn od br)]) := by rw [← ew20]; exact hD
          exact W.iret (v := (-1)) hx hb hr (fun t ht hW => by subst hAe; exact ⟨⟨(-1), (), rfl, (if_neg hC).symm, by rw [ht]; exact hP, va_K.moved hW.alike hK, hD⟩, hS.F ht⟩) (by subst hAe; exact hS.2.2) d_O_ask_40

