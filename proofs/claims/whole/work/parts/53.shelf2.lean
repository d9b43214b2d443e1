abbrev b_P_price : ByteArray := prog_1_method_6_code
def y_P_price : MethodName := ⟨"PartShelves", "price", "(I)J"⟩
theorem d_P_price_0 : decode b_P_price 0 = .ok (.aload_n 0, 1) := by decide +kernel
theorem d_P_price_1 : decode b_P_price 1 = .ok (.iload_n 1, 1) := by decide +kernel
theorem d_P_price_2 : decode b_P_price 2 = .ok (.invokevirtual 104, 3) := by decide +kernel
theorem d_P_price_5 : decode b_P_price 5 = .ok (.astore_n 2, 1) := by decide +kernel
theorem d_P_price_6 : decode b_P_price 6 = .ok (.aload_n 2, 1) := by decide +kernel
theorem d_P_price_7 : decode b_P_price 7 = .ok (.ifnonnull 9, 3) := by decide +kernel
theorem d_P_price_10 : decode b_P_price 10 = .ok (.ldc2_w 108, 3) := by decide +kernel
theorem d_P_price_13 : decode b_P_price 13 = .ok (.goto 14, 3) := by decide +kernel
theorem d_P_price_16 : decode b_P_price 16 = .ok (.aload_n 0, 1) := by decide +kernel
theorem d_P_price_17 : decode b_P_price 17 = .ok (.getfield 10, 3) := by decide +kernel
theorem d_P_price_20 : decode b_P_price 20 = .ok (.aload_n 2, 1) := by decide +kernel
theorem d_P_price_21 : decode b_P_price 21 = .ok (.getfield 110, 3) := by decide +kernel
theorem d_P_price_24 : decode b_P_price 24 = .ok (.invokevirtual 113, 3) := by decide +kernel
theorem d_P_price_27 : decode b_P_price 27 = .ok (.lreturn, 1) := by decide +kernel
def w_P_price : List Cond := .code y_P_price b_P_price 3 (some .long) :: ([.methodLink "PartShelves" 104 ⟨"PartShelves", "partAt", "(I)LPartShelves$Part;"⟩, .instanceMethod ⟨"PartShelves", "partAt", "(I)LPartShelves$Part;"⟩, .selects "PartShelves" ⟨"PartShelves", "partAt", "(I)LPartShelves$Part;"⟩ ⟨"PartShelves", "partAt", "(I)LPartShelves$Part;"⟩, .initialized "PartShelves", .code ⟨"PartShelves", "partAt", "(I)LPartShelves$Part;"⟩ prog_1_method_34_code 2 (some (.object "PartShelves$Part")), .fieldLink "PartShelves" 23 "PartShelves" "parts" "Ljava/util/ArrayList;", .methodLink "PartShelves" 89 ⟨"java/util/ArrayList", "size", "()I"⟩, .instanceMethod ⟨"java/util/ArrayList", "size", "()I"⟩, .selects "java/util/ArrayList" ⟨"java/util/ArrayList", "size", "()I"⟩ ⟨"java/util/ArrayList", "size", "()I"⟩, .initialized "java/util/ArrayList", .code ⟨"java/util/ArrayList", "size", "()I"⟩ prog_18_method_8_code 1 (some .int), .fieldLink "java/util/ArrayList" 48 "java/util/ArrayList" "size" "I", .sameField "java/util/ArrayList" "java/util/AbstractList" "modCount" "I", .methodLink "PartShelves" 146 ⟨"java/util/ArrayList", "get", "(I)Ljava/lang/Object;"⟩, .instanceMethod ⟨"java/util/ArrayList", "get", "(I)Ljava/lang/Object;"⟩, .selects "java/util/ArrayList" ⟨"java/util/ArrayList", "get", "(I)Ljava/lang/Object;"⟩ ⟨"java/util/ArrayList", "get", "(I)Ljava/lang/Object;"⟩, .code ⟨"java/util/ArrayList", "get", "(I)Ljava/lang/Object;"⟩ prog_18_method_20_code 2 (some (.object "java/lang/Object")), .methodLink "java/util/ArrayList" 118 ⟨"java/util/Objects", "checkIndex", "(II)I"⟩, .static ⟨"java/util/Objects", "checkIndex", "(II)I"⟩, .initialized "java/util/Objects", .code ⟨"java/util/Objects", "checkIndex", "(II)I"⟩ prog_22_method_17_code 2 (some .int), .methodLink "java/util/Objects" 105 ⟨"jdk/internal/util/Preconditions", "checkIndex", "(IILjava/util/function/BiFunction;)I"⟩, .static ⟨"jdk/internal/util/Preconditions", "checkIndex", "(IILjava/util/function/BiFunction;)I"⟩, .initialized "jdk/internal/util/Preconditions", .code ⟨"jdk/internal/util/Preconditions", "checkIndex", "(IILjava/util/function/BiFunction;)I"⟩ prog_26_method_11_code 3 (some .int), .methodLink "java/util/ArrayList" 123 ⟨"java/util/ArrayList", "elementData", "(I)Ljava/lang/Object;"⟩, .instanceMethod ⟨"java/util/ArrayList", "elementData", "(I)Ljava/lang/Object;"⟩, .selects "java/util/ArrayList" ⟨"java/util/ArrayList", "elementData", "(I)Ljava/lang/Object;"⟩ ⟨"java/util/ArrayList", "elementData", "(I)Ljava/lang/Object;"⟩, .code ⟨"java/util/ArrayList", "elementData", "(I)Ljava/lang/Object;"⟩ prog_18_method_18_code 2 (some (.object "java/lang/Object")), .fieldLink "java/util/ArrayList" 9 "java/util/ArrayList" "elementData" "[Ljava/lang/Object;", .classLink "PartShelves" 95 "PartShelves$Part", .constantLong "PartShelves" 108 (-1), .fieldLink "PartShelves" 10 "PartShelves" "prices" "LPartShelves$PriceRows;", .fieldLink "PartShelves" 110 "PartShelves$Part" "age" "I", .methodLink "PartShelves" 113 ⟨"PartShelves$PriceRows", "at", "(I)J"⟩, .instanceMethod ⟨"PartShelves$PriceRows", "at", "(I)J"⟩, .selects "PartShelves$PriceRows" ⟨"PartShelves$PriceRows", "at", "(I)J"⟩ ⟨"PartShelves$PriceRows", "at", "(I)J"⟩, .initialized "PartShelves$PriceRows", .code ⟨"PartShelves$PriceRows", "at", "(I)J"⟩ prog_6_method_3_code 3 (some .long), .fieldLink "PartShelves$PriceRows" 19 "PartShelves$PriceRows" "count" "I", .fieldLink "PartShelves$PriceRows" 9 "PartShelves$PriceRows" "ages" "[I", .fieldLink "PartShelves$PriceRows" 15 "PartShelves$PriceRows" "cents" "[J"] ++ u_ws R_P F_P 13 ++ u_ws R_L F_L 3 ++ u_ws R_Q F_Q 7 ++ u_ws R_R F_R 3)
set_option maxRecDepth 20000 in
theorem g_P_price_P_partAt : GoodIn w_P_price (wsV R_P 104 R_P y_P_partAt w_P_partAt) := goodIn_p _ [5, 11, 17, 21, 25, 29] rfl (by decide +kernel)
set_option maxRecDepth 20000 in
theorem g_P_price_R_at : GoodIn w_P_price (wsV R_P 113 R_R y_R_at w_R_at) := goodIn_p _ [39] rfl (by decide +kernel)
set_option maxHeartbeats 4000000 in
set_option maxRecDepth 100000 in
theorem c_P_price (l : Launch) (D : va_G) (kC : Nat → ClassId) (ad : Nat → Nat) (qR : Nat → Nat) (lp : Nat) (la : Nat) (lj : Nat) (qM : Nat → Nat) (qN : Nat → Nat) (ft : Nat → Int32) (wr : Nat → Nat) (tl : Nat → Int32) (tn : Nat) (bo : Nat → Int32) (lD : Nat → Nat) (td : Nat) (rA : Nat → Nat) (rC : Nat → Nat) (rn : Nat) (eD : Nat) (mdp : Int32) (xp : Nat) (pn : Nat) (pa : Nat → Nat) (kd : Nat → Nat) (aG : Nat → Nat) (sR : Nat → Nat) (sT : Nat → Nat) (dY : Nat → Nat) (pho : Nat → Int32) (ppe : Nat → Int32) (x : Int32) (hpn : pn ≤ 8) (hrn : rn ≤ 6) (hrA : ∀ j, rA j ≤ 1000) (haG : ∀ j, aG j ≤ 1000) : Met l y_P_price w_P_price ({ frames := 4, cells := 0, slots := 0, locals := 90 } : Room) (gPrz cls D (tyL kC) [.ref (ad 0), .int x] (fl [(wP kC ad qR lp la lj qM qN ft wr tl tn bo lD td), (wR kC qR (fun i => nI (rA i)) (fun i => lN (rC i)) rn), (wLq kC eD lp mdp xp pn pa), (pQ pa kd aG sR sT dY pho ppe pn)])) (vp_Sl (fun r => r = (if inR x pn then lN (prM rA rC (aG (nOf x)) rn) else -1))) 0 0 (fun _ => False) := by
  refine Met.ofW (cc := b_P_price) (maxL := 3) (ret := (some .long)) (by decide) rfl ?_
  intro p e s m args below meth c s₁ B hml hv
  obtain ⟨rfl, hP, hK, hzw⟩ := hv
  have hx := B.exec
  have hb := B.bytes
  have hr := B.returns
  have hts := atoms_spec (ws := w_P_price) B.pre
  have hown : s.vm.findClass R_P = some m.cls := findClass_of_methodNamed B.named
  have hlocks := B.notSynchronized
  have hl := lv_entry ([.ref (ad 0), .int x]) (n := 3) (Nat.le_of_ble_eq_true rfl)
  rw [lg_entry_eq]
  generalize (lg_sl ([.ref (ad 0), .int x]) ++ List.replicate (3 - (lg_sl ([.ref (ad 0), .int x])).length) Slot.unset).toArray = ls at hl ⊢
  have hl : lv_has ls 3 [(0, .ref (ad 0)), (1, .int x)] := hl
  refine lv_aload_n hx hb d_P_price_0 rfl (lv_at hl 0 rfl) ?_
  refine lv_iload_n hx hb d_P_price_1 rfl (lv_at hl 1 rfl) ?_
  refine r_callq (W.runV (As := [.int x]) (rest := []) ⟨hx, hb, hml, hown, hts⟩ (c_P_partAt l D kC ad qR lp la lj qM qN ft wr tl tn bo lD td eD mdp xp pn pa kd aG sR sT dY pho ppe x (hpn)) (cwV 1 hts g_P_price_P_partAt rfl rfl rfl (by decide +kernel) ⟨Nat.le_of_ble_eq_true rfl, Nat.le_of_ble_eq_true rfl⟩) (rz_preV hzw (f_recv (ci := 0) (q0 := 0) hK hP 0 rfl rfl rfl) hK (fl_sub hP [0, 2, 3] rfl)) rfl rfl hl.1 rfl (lv_room (Nat.le_of_ble_eq_true rfl)) d_P_price_2 ⟨Nat.le_of_ble_eq_true rfl, Nat.le_of_ble_eq_true rfl⟩) ?_
  by_cases hC : inR x pn
  · obtain ⟨j, hj, rfl⟩ := inR_n (by omega) hC
    refine W.eq (g2 := F0 m 5 ls [.ref (pa j)]) (by rw [if_pos ((inR_nI (by omega)).mpr hj), nOf_nI (by omega)]; rfl) ?_
    refine lv_astore_n (lv' := [(2, .ref (pa j)), (0, .ref (ad 0)), (1, .int (nI j))]) hx hb d_P_price_5 rfl hl (by decide) rfl (fun ls hl => ?_)
    refine lv_aload_n hx hb d_P_price_6 rfl (lv_at hl 0 rfl) ?_
    refine lv_ifnonnull (tgt := 16) hx hb d_P_price_7 (by decide) ?_
    have hPez1 := hP
    have ez1 : fl [(wP kC ad qR lp la lj qM qN ft wr tl tn bo lD td), (wR kC qR (fun i => nI (rA i)) (fun i => lN (rC i)) rn), (wLq kC eD lp mdp xp pn pa), (pQ pa kd aG sR sT dY pho ppe pn)] = fl [(wP kC ad qR lp la lj qM qN ft wr tl tn bo lD td), (wR kC qR (fun i => nI (rA i)) (fun i => lN (rC i)) rn), (wLq kC eD lp mdp xp pn pa), (pQ pa kd aG sR sT dY pho ppe j), (wQ (pa j) (kd j) (aG j) (sR j) (sT j) (dY j) (pho j) (ppe j)), (pQr pa kd aG sR sT dY pho ppe pn j)] := zm [(wP kC ad qR lp la lj qM qN ft wr tl tn bo lD td), (wR kC qR (fun i => nI (rA i)) (fun i => lN (rC i)) rn), (wLq kC eD lp mdp xp pn pa)] [] (g := fun i => (wQ (pa i) (kd i) (aG i) (sR i) (sT i) (dY i) (pho i) (ppe i))) (hj)
    have hP : va_P D cls (fl [(wP kC ad qR lp la lj qM qN ft wr tl tn bo lD td), (wR kC qR (fun i => nI (rA i)) (fun i => lN (rC i)) rn), (wLq kC eD lp mdp xp pn pa), (pQ pa kd aG sR sT dY pho ppe j), (wQ (pa j) (kd j) (aG j) (sR j) (sT j) (dY j) (pho j) (ppe j)), (pQr pa kd aG sR sT dY pho ppe pn j)]) s.heap := by rw [← ez1]; exact hP
    refine lv_aload_n hx hb d_P_price_16 rfl (lv_at hl 1 rfl) ?_
    refine fv_get (ci := 0) (v := .ref (qR 0)) (C := R_P) (T := F_P) (N := 13) hx hb hts (by decide +kernel) hown hK hP 0 0 rfl rfl rfl 0 (by decide) (hts (.fieldLink R_P 10 "PartShelves" "prices" "LPartShelves$PriceRows;") (by decide +kernel)) (fun _ h9 => h9) rfl d_P_price_17 ?_
    refine lv_aload_n hx hb d_P_price_20 rfl (lv_at hl 0 rfl) ?_
    refine fv_get (ci := 4) (v := .int (nI (aG j))) (C := R_Q) (T := F_Q) (N := 7) hx hb hts (by decide +kernel) hown hK hP 4 0 rfl rfl rfl 1 (by decide) (hts (.fieldLink R_P 110 "PartShelves$Part" "age" "I") (by decide +kernel)) (fun _ h9 => h9) rfl d_P_price_21 ?_
    refine r_calll (W.runV (As := [.int (nI (aG j))]) (rest := []) ⟨hx, hb, hml, hown, hts⟩ (c_R_at l D kC qR (fun i => nI (rA i)) (fun i => lN (rC i)) rn (nI (aG j)) (hrn)) (cwV 1 hts g_P_price_R_at rfl rfl rfl (by decide +kernel) ⟨Nat.le_of_ble_eq_true rfl, Nat.le_of_ble_eq_true rfl⟩) (r_preV (f_recv (ci := 5) (q0 := 0) hK hP 1 rfl rfl rfl) hK (fl_sub hP [1] rfl)) rfl rfl hl.1 rfl (lv_room (Nat.le_of_ble_eq_true rfl)) d_P_price_24 ⟨Nat.le_of_ble_eq_true rfl, Nat.le_of_ble_eq_true rfl⟩) ?_
    refine nv_topl (y := lN (prM rA rC (aG j) rn)) (prAt_N hrA (haG j) rn) ?_
    exact W.lret (v := lN (prM rA rC (aG j) rn)) hx hb hr (fun t ht hW => ⟨_, rfl, by rw [if_pos ((inR_nI (by omega)).mpr hj), nOf_nI (by omega)], ht⟩) t_nil d_P_price_27
  · refine W.eq (g2 := F0 m 5 ls [.null]) (by rw [if_neg hC]; rfl) ?_
    refine lv_astore_nN (lv' := [(2, .null), (0, .ref (ad 0)), (1, .int x)]) hx hb d_P_price_5 rfl hl (by decide) rfl (fun ls hl => ?_)
    refine lv_aload_nN hx hb d_P_price_6 rfl (lv_at hl 0 rfl) ?_
    refine lv_ifnonnullN hx hb d_P_price_7 ?_
    refine lv_ldc2 (v := (-1)) hx hb hown (hts (.constantLong R_P 108 (-1)) (by decide +kernel)) d_P_price_10 ?_
    refine lv_goto (tgt := 27) hx hb d_P_price_13 (by decide) ?_
    exact W.lret (v := (-1)) hx hb hr (fun t ht hW => ⟨_, rfl, (if_neg hC).symm, ht⟩) t_nil d_P_price_27

abbrev b_P_state : ByteArray := prog_1_method_7_code
def y_P_state : MethodName := ⟨"PartShelves", "state", "(I)I"⟩
theorem d_P_state_0 : decode b_P_state 0 = .ok (.aload_n 0, 1) := by decide +kernel
theorem d_P_state_1 : decode b_P_state 1 = .ok (.iload_n 1, 1) := by decide +kernel
theorem d_P_state_2 : decode b_P_state 2 = .ok (.invokevirtual 104, 3) := by decide +kernel
theorem d_P_state_5 : decode b_P_state 5 = .ok (.astore_n 2, 1) := by decide +kernel
theorem d_P_state_6 : decode b_P_state 6 = .ok (.aload_n 2, 1) := by decide +kernel
theorem d_P_state_7 : decode b_P_state 7 = .ok (.ifnonnull 7, 3) := by decide +kernel
theorem d_P_state_10 : decode b_P_state 10 = .ok (.iconst (-1), 1) := by decide +kernel
theorem d_P_state_11 : decode b_P_state 11 = .ok (.goto 11, 3) := by decide +kernel
theorem d_P_state_14 : decode b_P_state 14 = .ok (.aload_n 2, 1) := by decide +kernel
theorem d_P_state_15 : decode b_P_state 15 = .ok (.aload_n 0, 1) := by decide +kernel
theorem d_P_state_16 : decode b_P_state 16 = .ok (.getfield 64, 3) := by decide +kernel
theorem d_P_state_19 : decode b_P_state 19 = .ok (.invokevirtual 117, 3) := by decide +kernel
theorem d_P_state_22 : decode b_P_state 22 = .ok (.ireturn, 1) := by decide +kernel
def w_P_state : List Cond := .code y_P_state b_P_state 3 (some .int) :: ([.methodLink "PartShelves" 104 ⟨"PartShelves", "partAt", "(I)LPartShelves$Part;"⟩, .instanceMethod ⟨"PartShelves", "partAt", "(I)LPartShelves$Part;"⟩, .selects "PartShelves" ⟨"PartShelves", "partAt", "(I)LPartShelves$Part;"⟩ ⟨"PartShelves", "partAt", "(I)LPartShelves$Part;"⟩, .initialized "PartShelves", .code ⟨"PartShelves", "partAt", "(I)LPartShelves$Part;"⟩ prog_1_method_34_code 2 (some (.object "PartShelves$Part")), .fieldLink "PartShelves" 23 "PartShelves" "parts" "Ljava/util/ArrayList;", .methodLink "PartShelves" 89 ⟨"java/util/ArrayList", "size", "()I"⟩, .instanceMethod ⟨"java/util/ArrayList", "size", "()I"⟩, .selects "java/util/ArrayList" ⟨"java/util/ArrayList", "size", "()I"⟩ ⟨"java/util/ArrayList", "size", "()I"⟩, .initialized "java/util/ArrayList", .code ⟨"java/util/ArrayList", "size", "()I"⟩ prog_18_method_8_code 1 (some .int), .fieldLink "java/util/ArrayList" 48 "java/util/ArrayList" "size" "I", .sameField "java/util/ArrayList" "java/util/AbstractList" "modCount" "I", .methodLink "PartShelves" 146 ⟨"java/util/ArrayList", "get", "(I)Ljava/lang/Object;"⟩, .instanceMethod ⟨"java/util/ArrayList", "get", "(I)Ljava/lang/Object;"⟩, .selects "java/util/ArrayList" ⟨"java/util/ArrayList", "get", "(I)Ljava/lang/Object;"⟩ ⟨"java/util/ArrayList", "get", "(I)Ljava/lang/Object;"⟩, .code ⟨"java/util/ArrayList", "get", "(I)Ljava/lang/Object;"⟩ prog_18_method_20_code 2 (some (.object "java/lang/Object")), .methodLink "java/util/ArrayList" 118 ⟨"java/util/Objects", "checkIndex", "(II)I"⟩, .static ⟨"java/util/Objects", "checkIndex", "(II)I"⟩, .initialized "java/util/Objects", .code ⟨"java/util/Objects", "checkIndex", "(II)I"⟩ prog_22_method_17_code 2 (some .int), .methodLink "java/util/Objects" 105 ⟨"jdk/internal/util/Preconditions", "checkIndex", "(IILjava/util/function/BiFunction;)I"⟩, .static ⟨"jdk/internal/util/Preconditions", "checkIndex", "(IILjava/util/function/BiFunction;)I"⟩, .initialized "jdk/internal/util/Preconditions", .code ⟨"jdk/internal/util/Preconditions", "checkIndex", "(IILjava/util/function/BiFunction;)I"⟩ prog_26_method_11_code 3 (some .int), .methodLink "java/util/ArrayList" 123 ⟨"java/util/ArrayList", "elementData", "(I)Ljava/lang/Object;"⟩, .instanceMethod ⟨"java/util/ArrayList", "elementData", "(I)Ljava/lang/Object;"⟩, .selects "java/util/ArrayList" ⟨"java/util/ArrayList", "elementData", "(I)Ljava/lang/Object;"⟩ ⟨"java/util/ArrayList", "elementData", "(I)Ljava/lang/Object;"⟩, .code ⟨"java/util/ArrayList", "elementData", "(I)Ljava/lang/Object;"⟩ prog_18_method_18_code 2 (some (.object "java/lang/Object")), .fieldLink "java/util/ArrayList" 9 "java/util/ArrayList" "elementData" "[Ljava/lang/Object;", .classLink "PartShelves" 95 "PartShelves$Part", .fieldLink "PartShelves" 64 "PartShelves" "currentDay" "I", .methodLink "PartShelves" 117 ⟨"PartShelves$Part", "stateOn", "(I)I"⟩, .instanceMethod ⟨"PartShelves$Part", "stateOn", "(I)I"⟩, .selects "PartShelves$Part" ⟨"PartShelves$Part", "stateOn", "(I)I"⟩ ⟨"PartShelves$Part", "stateOn", "(I)I"⟩, .initialized "PartShelves$Part", .code ⟨"PartShelves$Part", "stateOn", "(I)I"⟩ prog_5_method_2_code 2 (some .int), .fieldLink "PartShelves$Part" 9 "PartShelves$Part" "state" "I", .fieldLink "PartShelves$Part" 15 "PartShelves$Part" "day" "I"] ++ u_ws R_P F_P 13 ++ u_ws R_L F_L 3 ++ u_ws R_Q F_Q 7)
set_option maxRecDepth 20000 in
theorem g_P_state_P_partAt : GoodIn w_P_state (wsV R_P 104 R_P y_P_partAt w_P_partAt) := goodIn_p _ [5, 11, 17, 21, 25, 29] rfl (by decide +kernel)
set_option maxRecDepth 20000 in
theorem g_P_state_Q_stateOn : GoodIn w_P_state (wsV R_P 117 R_Q y_Q_stateOn w_Q_stateOn) := goodIn_p _ [37] rfl (by decide +kernel)
set_option maxHeartbeats 4000000 in
set_option maxRecDepth 100000 in
theorem c_P_state (l : Launch) (D : va_G) (kC : Nat → ClassId) (ad : Nat → Nat) (qR : Nat → Nat) (lp : Nat) (la : Nat) (lj : Nat) (qM : Nat → Nat) (qN : Nat → Nat) (ft : Nat → Int32) (wr : Nat → Nat) (tl : Nat → Int32) (tn : Nat) (bo : Nat → Int32) (lD : Nat → Nat) (td : Nat) (eD : Nat) (mdp : Int32) (xp : Nat) (pn : Nat) (pa : Nat → Nat) (kd : Nat → Nat) (aG : Nat → Nat) (sR : Nat → Nat) (sT : Nat → Nat) (dY : Nat → Nat) (pho : Nat → Int32) (ppe : Nat → Int32) (x : Int32) (hpn : pn ≤ 8) (hsT : ∀ j, sT j ≤ 3) (hdY : ∀ j, dY j ≤ 100000) (htd : td ≤ 100000) : Met l y_P_state w_P_state ({ frames := 4, cells := 0, slots := 0, locals := 90 } : Room) (gPrz cls D (tyL kC) [.ref (ad 0), .int x] (fl [(wP kC ad qR lp la lj qM qN ft wr tl tn bo lD td), (wLq kC eD lp mdp xp pn pa), (pQ pa kd aG sR sT dY pho ppe pn)])) (vp_Si (fun r => r = (if inR x pn then nI (stOn (sT (nOf x)) (dY (nOf x)) td) else -1))) 0 0 (fun _ => False) := by
  refine Met.ofW (cc := b_P_state) (maxL := 3) (ret := (some .int)) (by decide) rfl ?_
  intro p e s m args below meth c s₁ B hml hv
  obtain ⟨rfl, hP, hK, hzw⟩ := hv
  have hx := B.exec
  have hb := B.bytes
  have hr := B.returns
  have hts := atoms_spec (ws := w_P_state) B.pre
  have hown : s.vm.findClass R_P = some m.cls := findClass_of_methodNamed B.named
  have hlocks := B.notSynchronized
  have hl := lv_entry ([.ref (ad 0), .int x]) (n := 3) (Nat.le_of_ble_eq_true rfl)
  rw [lg_entry_eq]
  generalize (lg_sl ([.ref (ad 0), .int x]) ++ List.replicate (3 - (lg_sl ([.ref (ad 0), .int x])).length) Slot.unset).toArray = ls at hl ⊢
  have hl : lv_has ls 3 [(0, .ref (ad 0)), (1, .int x)] := hl
  refine lv_aload_n hx hb d_P_state_0 rfl (lv_at hl 0 rfl) ?_
  refine lv_iload_n hx hb d_P_state_1 rfl (lv_at hl 1 rfl) ?_
  refine r_callq (W.runV (As := [.int x]) (rest := []) ⟨hx, hb, hml, hown, hts⟩ (c_P_partAt l D kC ad qR lp la lj qM qN ft wr tl tn bo lD td eD mdp xp pn pa kd aG sR sT dY pho ppe x (hpn)) (cwV 1 hts g_P_state_P_partAt rfl rfl rfl (by decide +kernel) ⟨Nat.le_of_ble_eq_true rfl, Nat.le_of_ble_eq_true rfl⟩) (rz_preV hzw (f_recv (ci := 0) (q0 := 0) hK hP 0 rfl rfl rfl) hK (fl_sub hP [0, 1, 2] rfl)) rfl rfl hl.1 rfl (lv_room (Nat.le_of_ble_eq_true rfl)) d_P_state_2 ⟨Nat.le_of_ble_eq_true rfl, Nat.le_of_ble_eq_true rfl⟩) ?_
  by_cases hC : inR x pn
  · obtain ⟨j, hj, rfl⟩ := inR_n (by omega) hC
    refine W.eq (g2 := F0 m 5 ls [.ref (pa j)]) (by rw [if_pos ((inR_nI (by omega)).mpr hj), nOf_nI (by omega)]; rfl) ?_
    refine lv_astore_n (lv' := [(2, .ref (pa j)), (0, .ref (ad 0)), (1, .int (nI j))]) hx hb d_P_state_5 rfl hl (by decide) rfl (fun ls hl => ?_)
    refine lv_aload_n hx hb d_P_state_6 rfl (lv_at hl 0 rfl) ?_
    refine lv_ifnonnull (tgt := 14) hx hb d_P_state_7 (by decide) ?_
    have hPez1 := hP
    have ez1 : fl [(wP kC ad qR lp la lj qM qN ft wr tl tn bo lD td), (wLq kC eD lp mdp xp pn pa), (pQ pa kd aG sR sT dY pho ppe pn)] = fl [(wP kC ad qR lp la lj qM qN ft wr tl tn bo lD td), (wLq kC eD lp mdp xp pn pa), (pQ pa kd aG sR sT dY pho ppe j), (wQ (pa j) (kd j) (aG j) (sR j) (sT j) (dY j) (pho j) (ppe j)), (pQr pa kd aG sR sT dY pho ppe pn j)] := zm [(wP kC ad qR lp la lj qM qN ft wr tl tn bo lD td), (wLq kC eD lp mdp xp pn pa)] [] (g := fun i => (wQ (pa i) (kd i) (aG i) (sR i) (sT i) (dY i) (pho i) (ppe i))) (hj)
    have hP : va_P D cls (fl [(wP kC ad qR lp la lj qM qN ft wr tl tn bo lD td), (wLq kC eD lp mdp xp pn pa), (pQ pa kd aG sR sT dY pho ppe j), (wQ (pa j) (kd j) (aG j) (sR j) (sT j) (dY j) (pho j) (ppe j)), (pQr pa kd aG sR sT dY pho ppe pn j)]) s.heap := by rw [← ez1]; exact hP
    refine lv_aload_n hx hb d_P_state_14 rfl (lv_at hl 0 rfl) ?_
    refine lv_aload_n hx hb d_P_state_15 rfl (lv_at hl 1 rfl) ?_
    refine fv_get (ci := 0) (v := .int (nI td)) (C := R_P) (T := F_P) (N := 13) hx hb hts (by decide +kernel) hown hK hP 0 0 rfl rfl rfl 12 (by decide) (hts (.fieldLink R_P 64 "PartShelves" "currentDay" "I") (by decide +kernel)) (fun _ h9 => h9) rfl d_P_state_16 ?_
    refine r_calli (W.runV (As := [.int (nI td)]) (rest := []) ⟨hx, hb, hml, hown, hts⟩ (c_Q_stOn l D kC (pa j) (kd j) (aG j) (sR j) (sT j) (dY j) (pho j) (ppe j) td (hsT j) (hdY j) (htd)) (cwV 1 hts g_P_state_Q_stateOn rfl rfl rfl (by decide +kernel) ⟨Nat.le_of_ble_eq_true rfl, Nat.le_of_ble_eq_true rfl⟩) (r_preV (f_recv (ci := 4) (q0 := 0) hK hP 3 rfl rfl rfl) hK (fl_sub hP [3] rfl)) rfl rfl hl.1 rfl (lv_room (Nat.le_of_ble_eq_true rfl)) d_P_state_19 ⟨Nat.le_of_ble_eq_true rfl, Nat.le_of_ble_eq_true rfl⟩) ?_
    exact W.iret (v := nI (stOn (sT j) (dY j) td)) hx hb hr (fun t ht hW => ⟨_, rfl, by rw [if_pos ((inR_nI (by omega)).mpr hj), nOf_nI (by omega)], ht⟩) t_nil d_P_state_22
  · refine W.eq (g2 := F0 m 5 ls [.null]) (by rw [if_neg hC]; rfl) ?_
    refine lv_astore_nN (lv' := [(2, .null), (0, .ref (ad 0)), (1, .int x)]) hx hb d_P_state_5 rfl hl (by decide) rfl (fun ls hl => ?_)
    refine lv_aload_nN hx hb d_P_state_6 rfl (lv_at hl 0 rfl) ?_
    refine lv_ifnonnullN hx hb d_P_state_7 ?_
    refine lv_iconst (v := (-1)) hx hb d_P_state_10 (by decide) ?_
    refine lv_goto (tgt := 22) hx hb d_P_state_11 (by decide) ?_
    exact W.iret (v := (-1)) hx hb hr (fun t ht hW => ⟨_, rfl, (if_neg hC).symm, ht⟩) t_nil d_P_state_22

abbrev b_P_of : ByteArray := prog_1_method_11_code
def y_P_of : MethodName := ⟨"PartShelves", "of", "(I)I"⟩
theorem d_P_of_0 : decode b_P_of 0 = .ok (.aload_n 0, 1) := by decide +kernel
theorem d_P_of_1 : decode b_P_of 1 = .ok (.getfield 36, 3) := by decide +kernel
theorem d_P_of_4 : decode b_P_of 4 = .ok (.iload_n 1, 1) := by decide +kernel
theorem d_P_of_5 : decode b_P_of 5 = .ok (.invokevirtual 167, 3) := by decide +kernel
theorem d_P_of_8 : decode b_P_of 8 = .ok (.ireturn, 1) := by decide +kernel
def w_P_of : List Cond := .code y_P_of b_P_of 2 (some .int) :: ([.fieldLink "PartShelves" 36 "PartShelves" "matching" "LPartShelves$Matching;", .methodLink "PartShelves" 167 ⟨"PartShelves$Matching", "partFor", "(I)I"⟩, .instanceMethod ⟨"PartShelves$Matching", "partFor", "(I)I"⟩, .selects "PartShelves$Matching" ⟨"PartShelves$Matching", "partFor", "(I)I"⟩ ⟨"PartShelves$Matching", "partFor", "(I)I"⟩, .initialized "PartShelves$Matching", .code ⟨"PartShelves$Matching", "partFor", "(I)I"⟩ prog_4_method_6_code 2 (some .int), .fieldLink "PartShelves$Matching" 44 "PartShelves$Matching" "askCount" "I", .fieldLink "PartShelves$Matching" 32 "PartShelves$Matching" "given" "[I"] ++ u_ws R_P F_P 13 ++ u_ws R_M F_M 13)
set_option maxRecDepth 20000 in
theorem g_P_of_M_partFor : GoodIn w_P_of (wsV R_P 167 R_M y_M_partFor w_M_partFor) := goodIn_p _ [6] rfl (by decide +kernel)
set_option maxHeartbeats 4000000 in
set_option maxRecDepth 100000 in
theorem c_P_of (l : Launch) (D : va_G) (kC : Nat → ClassId) (ad : Nat → Nat) (qR : Nat → Nat) (lp : Nat) (la : Nat) (lj : Nat) (qM : Nat → Nat) (qN : Nat → Nat) (ft : Nat → Int32) (wr : Nat → Nat) (tl : Nat → Int32) (tn : Nat) (bo : Nat → Int32) (lD : Nat → Nat) (td : Nat) (sh : Nat → Int64) (be : Nat → Int64) (ob : Nat → Int32) (os : Nat → Int64) (oc : Nat) (ar : Nat → Int32) (gi : Nat → Int32) (pg : Nat → Int64) (ag : Nat → Int64) (mp : Nat) (ma : Nat) (prn : Nat) (mtot : Int64) (x : Int32) (h8 : ma ≤ 8) : Met l y_P_of w_P_of ({ frames := 4, cells := 0, slots := 0, locals := 90 } : Room) (gPr cls D (tyL kC) [.ref (ad 0), .int x] (fl [(wP kC ad qR lp la lj qM qN ft wr tl tn bo lD td), (wM kC qM sh be ob os oc ar gi pg ag mp ma prn mtot)])) (vp_Si (fun r => r = atR gi (-1) x ma)) 0 0 (fun _ => False) := by
  refine Met.ofW (cc := b_P_of) (maxL := 2) (ret := (some .int)) (by decide) rfl ?_
  intro p e s m args below meth c s₁ B hml hv
  obtain ⟨rfl, hP, hK⟩ := hv
  have hx := B.exec
  have hb := B.bytes
  have hr := B.returns
  have hts := atoms_spec (ws := w_P_of) B.pre
  have hown : s.vm.findClass R_P = some m.cls := findClass_of_methodNamed B.named
  have hlocks := B.notSynchronized
  have hl := lv_entry ([.ref (ad 0), .int x]) (n := 2) (Nat.le_of_ble_eq_true rfl)
  rw [lg_entry_eq]
  generalize (lg_sl ([.ref (ad 0), .int x]) ++ List.replicate (2 - (lg_sl ([.ref (ad 0), .int x])).length) Slot.unset).toArray = ls at hl ⊢
  have hl : lv_has ls 2 [(0, .ref (ad 0)), (1, .int x)] := hl
  refine lv_aload_n hx hb d_P_of_0 rfl (lv_at hl 0 rfl) ?_
  refine fv_get (ci := 0) (v := .ref (qM 0)) (C := R_P) (T := F_P) (N := 13) hx hb hts (by decide +kernel) hown hK hP 0 0 rfl rfl rfl 5 (by decide) (hts (.fieldLink R_P 36 "PartShelves" "matching" "LPartShelves$Matching;") (by decide +kernel)) (fun _ h9 => h9) rfl d_P_of_1 ?_
  refine lv_iload_n hx hb d_P_of_4 rfl (lv_at hl 1 rfl) ?_
  refine r_calli (W.runV (As := [.int x]) (rest := []) ⟨hx, hb, hml, hown, hts⟩ (c_M_partFor l D kC qM sh be ob os oc ar gi pg ag mp ma prn mtot x (h8)) (cwV 1 hts g_P_of_M_partFor rfl rfl rfl (by decide +kernel) ⟨Nat.le_of_ble_eq_true rfl, Nat.le_of_ble_eq_true rfl⟩) (r_preV (f_recv (ci := 3) (q0 := 0) hK hP 1 rfl rfl rfl) hK (fl_sub hP [1] rfl)) rfl rfl hl.1 rfl (lv_room (Nat.le_of_ble_eq_true rfl)) d_P_of_5 ⟨Nat.le_of_ble_eq_true rfl, Nat.le_of_ble_eq_true rfl⟩) ?_
  exact W.iret (v := atR gi (-1) x ma) hx hb hr (fun t ht hW => ⟨_, rfl, rfl, ht⟩) t_nil d_P_of_8

abbrev b_P_worth : ByteArray := prog_1_method_12_code
def y_P_worth : MethodName := ⟨"PartShelves", "worth", "()J"⟩
theorem d_P_worth_0 : decode b_P_worth 0 = .ok (.aload_n 0, 1) := by decide +kernel
theorem d_P_worth_1 : decode b_P_worth 1 = .ok (.getfield 36, 3) := by decide +kernel
theorem d_P_worth_4 : decode b_P_worth 4 = .ok (.getfield 170, 3) := by decide +kernel
theorem d_P_worth_7 : decode b_P_worth 7 = .ok (.lreturn, 1) := by decide +kernel
def w_P_worth : List Cond := .code y_P_worth b_P_worth 1 (some .long) :: ([.fieldLink "PartShelves" 36 "PartShelves" "matching" "LPartShelves$Matching;", .fieldLink "PartShelves" 170 "PartShelves$Matching" "total" "J"] ++ u_ws R_P F_P 13 ++ u_ws R_M F_M 13)
set_option maxHeartbeats 4000000 in
set_option maxRecDepth 100000 in
theorem c_P_worth (l : Launch) (D : va_G) (kC : Nat → ClassId) (ad : Nat → Nat) (qR : Nat → Nat) (lp : Nat) (la : Nat) (lj : Nat) (qM : Nat → Nat) (qN : Nat → Nat) (ft : Nat → Int32) (wr : Nat → Nat) (tl : Nat → Int32) (tn : Nat) (bo : Nat → Int32) (lD : Nat → Nat) (td : Nat) (sh : Nat → Int64) (be : Nat → Int64) (ob : Nat → Int32) (os : Nat → Int64) (oc : Nat) (ar : Nat → Int32) (gi : Nat → Int32) (pg : Nat → Int64) (ag : Nat → Int64) (mp : Nat) (ma : Nat) (prn : Nat) (mtot : Int64) : Met l y_P_worth w_P_worth ({ frames := 0, cells := 0, slots := 0, locals := 0 } : Room) (gPr cls D (tyL kC) [.ref (ad 0)] (fl [(wP kC ad qR lp la lj qM qN ft wr tl tn bo lD td), (wM kC qM sh be ob os oc ar gi pg ag mp ma prn mtot)])) (vp_Sl (fun r => r = mtot)) 0 0 (fun _ => False) := by
  refine Met.ofW (cc := b_P_worth) (maxL := 1) (ret := (some .long)) (by decide) rfl ?_
  intro p e s m args below meth c s₁ B hml hv
  obtain ⟨rfl, hP, hK⟩ := hv
  have hx := B.exec
  have hb := B.bytes
  have hr := B.returns
  have hts := atoms_spec (ws := w_P_worth) B.pre
  have hown : s.vm.findClass R_P = some m.cls := findClass_of_methodNamed B.named
  have hlocks := B.notSynchronized
  have hl := lv_entry ([.ref (ad 0)]) (n := 1) (Nat.le_of_ble_eq_true rfl)
  rw [lg_entry_eq]
  generalize (lg_sl ([.ref (ad 0)]) ++ List.replicate (1 - (lg_sl ([.ref (ad 0)])).length) Slot.unset).toArray = ls at hl ⊢
  have hl : lv_has ls 1 [(0, .ref (ad 0))] := hl
  refine lv_aload_n hx hb d_P_worth_0 rfl (lv_at hl 0 rfl) ?_
  refine fv_get (ci := 0) (v := .ref (qM 0)) (C := R_P) (T := F_P) (N := 13) hx hb hts (by decide +kernel) hown hK hP 0 0 rfl rfl rfl 5 (by decide) (hts (.fieldLink R_P 36 "PartShelves" "matching" "LPartShelves$Matching;") (by decide +kernel)) (fun _ h9 => h9) rfl d_P_worth_1 ?_
  refine fv_get (ci := 3) (v := .long mtot) (C := R_M) (T := F_M) (N := 13) hx hb hts (by decide +kernel) hown hK hP 1 0 rfl rfl rfl 12 (by decide) (hts (.fieldLink R_P 170 "PartShelves$Matching" "total" "J") (by decide +kernel)) (fun _ h9 => h9) rfl d_P_worth_4 ?_
  exact W.lret (v := mtot) hx hb hr (fun t ht hW => ⟨_, rfl, rfl, ht⟩) t_nil d_P_worth_7

abbrev b_P_gain : ByteArray := prog_1_method_13_code
def y_P_gain : MethodName := ⟨"PartShelves", "gain", "(II)J"⟩
theorem d_P_gain_0 : decode b_P_gain 0 = .ok (.iload_n 1, 1) := by decide +kernel
theorem d_P_gain_1 : decode b_P_gain 1 = .ok (.ifCond .ne 12, 3) := by decide +kernel
theorem d_P_gain_4 : decode b_P_gain 4 = .ok (.aload_n 0, 1) := by decide +kernel
theorem d_P_gain_5 : decode b_P_gain 5 = .ok (.getfield 36, 3) := by decide +kernel
theorem d_P_gain_8 : decode b_P_gain 8 = .ok (.iload_n 2, 1) := by decide +kernel
theorem d_P_gain_9 : decode b_P_gain 9 = .ok (.invokevirtual 174, 3) := by decide +kernel
theorem d_P_gain_12 : decode b_P_gain 12 = .ok (.lreturn, 1) := by decide +kernel
theorem d_P_gain_13 : decode b_P_gain 13 = .ok (.iload_n 1, 1) := by decide +kernel
theorem d_P_gain_14 : decode b_P_gain 14 = .ok (.iconst 1, 1) := by decide +kernel
theorem d_P_gain_15 : decode b_P_gain 15 = .ok (.if_icmp .ne 14, 3) := by decide +kernel
theorem d_P_gain_18 : decode b_P_gain 18 = .ok (.aload_n 0, 1) := by decide +kernel
theorem d_P_gain_19 : decode b_P_gain 19 = .ok (.getfield 36, 3) := by decide +kernel
theorem d_P_gain_22 : decode b_P_gain 22 = .ok (.iload_n 2, 1) := by decide +kernel
theorem d_P_gain_23 : decode b_P_gain 23 = .ok (.invokevirtual 177, 3) := by decide +kernel
theorem d_P_gain_26 : decode b_P_gain 26 = .ok (.goto 6, 3) := by decide +kernel
theorem d_P_gain_29 : decode b_P_gain 29 = .ok (.ldc2_w 108, 3) := by decide +kernel
theorem d_P_gain_32 : decode b_P_gain 32 = .ok (.lreturn, 1) := by decide +kernel
def w_P_gain : List Cond := .code y_P_gain b_P_gain 3 (some .long) :: ([.fieldLink "PartShelves" 36 "PartShelves" "matching" "LPartShelves$Matching;", .methodLink "PartShelves" 174 ⟨"PartShelves$Matching", "gainOfPart", "(I)J"⟩, .instanceMethod ⟨"PartShelves$Matching", "gainOfPart", "(I)J"⟩, .selects "PartShelves$Matching" ⟨"PartShelves$Matching", "gainOfPart", "(I)J"⟩ ⟨"PartShelves$Matching", "gainOfPart", "(I)J"⟩, .initialized "PartShelves$Matching", .code ⟨"PartShelves$Matching", "gainOfPart", "(I)J"⟩ prog_4_method_7_code 2 (some .long), .fieldLink "PartShelves$Matching" 41 "PartShelves$Matching" "partCount" "I", .fieldLink "PartShelves$Matching" 35 "PartShelves$Matching" "partGains" "[J", .constantLong "PartShelves$Matching" 50 (-1), .methodLink "PartShelves" 177 ⟨"PartShelves$Matching", "gainOfAsk", "(I)J"⟩, .instanceMethod ⟨"PartShelves$Matching", "gainOfAsk", "(I)J"⟩, .selects "PartShelves$Matching" ⟨"PartShelves$Matching", "gainOfAsk", "(I)J"⟩ ⟨"PartShelves$Matching", "gainOfAsk", "(I)J"⟩, .code ⟨"PartShelves$Matching", "gainOfAsk", "(I)J"⟩ prog_4_method_8_code 2 (some .long), .fieldLink "PartShelves$Matching" 44 "PartShelves$Matching" "askCount" "I", .fieldLink "PartShelves$Matching" 38 "PartShelves$Matching" "askGains" "[J", .constantLong "PartShelves" 108 (-1)] ++ u_ws R_P F_P 13 ++ u_ws R_M F_M 13)
set_option maxRecDepth 20000 in
theorem g_P_gain_M_gainOfPart : GoodIn w_P_gain (wsV R_P 174 R_M y_M_gainOfPart w_M_gainOfPart) := goodIn_p _ [6] rfl (by decide +kernel)
set_option maxRecDepth 20000 in
theorem g_P_gain_M_gainOfAsk : GoodIn w_P_gain (wsV R_P 177 R_M y_M_gainOfAsk w_M_gainOfAsk) := goodIn_p _ [13] rfl (by decide +kernel)
set_option maxHeartbeats 4000000 in
set_option maxRecDepth 100000 in
theorem c_P_gain (l : Launch) (D : va_G) (kC : Nat → ClassId) (ad : Nat → Nat) (qR : Nat → Nat) (lp : Nat) (la : Nat) (lj : Nat) (qM : Nat → Nat) (qN : Nat → Nat) (ft : Nat → Int32) (wr : Nat → Nat) (tl : Nat → Int32) (tn : Nat) (bo : Nat → Int32) (lD : Nat → Nat) (td : Nat) (sh : Nat → Int64) (be : Nat → Int64) (ob : Nat → Int32) (os : Nat → Int64) (oc : Nat) (ar : Nat → Int32) (gi : Nat → Int32) (pg : Nat → Int64) (ag : Nat → Int64) (mp : Nat) (ma : Nat) (prn : Nat) (mtot : Int64) (x : Int32) (y : Int32) (h8p : mp ≤ 8) (h8a : ma ≤ 8) : Met l y_P_gain w_P_gain ({ frames := 4, cells := 0, slots := 0, locals := 90 } : Room) (gPr cls D (tyL kC) [.ref (ad 0), .int x, .int y] (fl [(wP kC ad qR lp la lj qM qN ft wr tl tn bo lD td), (wM kC qM sh be ob os oc ar gi pg ag mp ma prn mtot)])) (vp_Sl (fun r => r = (if x = 0 then atL pg (-1) y mp else if x = nI 1 then atL ag (-1) y ma else -1))) 0 0 (fun _ => False) := by
  refine Met.ofW (cc := b_P_gain) (maxL := 3) (ret := (some .long)) (by decide) rfl ?_
  intro p e s m args below meth c s₁ B hml hv
  obtain ⟨rfl, hP, hK⟩ := hv
  have hx := B.exec
  have hb := B.bytes
  have hr := B.returns
  have hts := atoms_spec (ws := w_P_gain) B.pre
  have hown : s.vm.findClass R_P = some m.cls := findClass_of_methodNamed B.named
  have hlocks := B.notSynchronized
  have hl := lv_entry ([.ref (ad 0), .int x, .int y]) (n := 3) (Nat.le_of_ble_eq_true rfl)
  rw [lg_entry_eq]
  generalize (lg_sl ([.ref (ad 0), .int x, .int y]) ++ List.replicate (3 - (lg_sl ([.ref (ad 0), .int x, .int y])).length) Slot.unset).toArray = ls at hl ⊢
  have hl : lv_has ls 3 [(0, .ref (ad 0)), (1, .int x), (2, .int y)] := hl
  refine lv_iload_n hx hb d_P_gain_0 rfl (lv_at hl 1 rfl) ?_
  refine lv_if_ne (tgt := 13) hx hb d_P_gain_1 (by decide) (fun h0 => ?_) (fun h0 => ?_)
  · refine lv_iload_n hx hb d_P_gain_13 rfl (lv_at hl 1 rfl) ?_
    refine lv_iconst (v := nI 1) hx hb d_P_gain_14 (by decide) ?_
    refine lv_icmp_ne (tgt := 29) hx hb d_P_gain_15 (by decide) (fun h1 => ?_) (fun h1 => ?_)
    · refine lv_ldc2 (v := (-1)) hx hb hown (hts (.constantLong R_P 108 (-1)) (by decide +kernel)) d_P_gain_29 ?_
      exact W.lret (v := (-1)) hx hb hr (fun t ht hW => ⟨_, rfl, by rw [if_neg h0, if_neg h1], ht⟩) t_nil d_P_gain_32
    · refine lv_aload_n hx hb d_P_gain_18 rfl (lv_at hl 0 rfl) ?_
      refine fv_get (ci := 0) (v := .ref (qM 0)) (C := R_P) (T := F_P) (N := 13) hx hb hts (by decide +kernel) hown hK hP 0 0 rfl rfl rfl 5 (by decide) (hts (.fieldLink R_P 36 "PartShelves" "matching" "LPartShelves$Matching;") (by decide +kernel)) (fun _ h9 => h9) rfl d_P_gain_19 ?_
      refine lv_iload_n hx hb d_P_gain_22 rfl (lv_at hl 2 rfl) ?_
      refine r_calll (W.runV (As := [.int y]) (rest := []) ⟨hx, hb, hml, hown, hts⟩ (c_M_gainOfAsk l D kC qM sh be ob os oc ar gi pg ag mp ma prn mtot y (h8a)) (cwV 1 hts g_P_gain_M_gainOfAsk rfl rfl rfl (by decide +kernel) ⟨Nat.le_of_ble_eq_true rfl, Nat.le_of_ble_eq_true rfl⟩) (r_preV (f_recv (ci := 3) (q0 := 0) hK hP 1 rfl rfl rfl) hK (fl_sub hP [1] rfl)) rfl rfl hl.1 rfl (lv_room (Nat.le_of_ble_eq_true rfl)) d_P_gain_23 ⟨Nat.le_of_ble_eq_true rfl, Nat.le_of_ble_eq_true rfl⟩) ?_
      refine lv_goto (tgt := 32) hx hb d_P_gain_26 (by decide) ?_
      exact W.lret (v := atL ag (-1) y ma) hx hb hr (fun t ht hW => ⟨_, rfl, by rw [if_neg h0, if_pos h1], ht⟩) t_nil d_P_gain_32
  · refine lv_aload_n hx hb d_P_gain_4 rfl (lv_at hl 0 rfl) ?_
    refine fv_get (ci := 0) (v := .ref (qM 0)) (C := R_P) (T := F_P) (N := 13) hx hb hts (by decide +kernel) hown hK hP 0 0 rfl rfl rfl 5 (by decide) (hts (.fieldLink R_P 36 "PartShelves" "matching" "LPartShelves$Matching;") (by decide +kernel)) (fun _ h9 => h9) rfl d_P_gain_5 ?_
    refine lv_iload_n hx hb d_P_gain_8 rfl (lv_at hl 2 rfl) ?_
    refine r_calll (W.runV (As := [.int y]) (rest := []) ⟨hx, hb, hml, hown, hts⟩ (c_M_gainOfPart l D kC qM sh be ob os oc ar gi pg ag mp ma prn mtot y (h8p)) (cwV 1 hts g_P_gain_M_gainOfPart rfl rfl rfl (by decide +kernel) ⟨Nat.le_of_ble_eq_true rfl, Nat.le_of_ble_eq_true rfl⟩) (r_preV (f_recv (ci := 3) (q0 := 0) hK hP 1 rfl rfl rfl) hK (fl_sub hP [1] rfl)) rfl rfl hl.1 rfl (lv_room (Nat.le_of_ble_eq_true rfl)) d_P_gain_9 ⟨Nat.le_of_ble_eq_true rfl, Nat.le_of_ble_eq_true rfl⟩) ?_
    exact W.lret (v := atL pg (-1) y mp) hx hb hr (fun t ht hW => ⟨_, rfl, (if_pos h0).symm, ht⟩) t_nil d_P_gain_12

abbrev b_P_cost : ByteArray := prog_1_method_18_code
def y_P_cost : MethodName := ⟨"PartShelves", "cost", "()J"⟩
theorem d_P_cost_0 : decode b_P_cost 0 = .ok (.aload_n 0, 1) := by decide +kernel
theorem d_P_cost_1 : decode b_P_cost 1 = .ok (.getfield 43, 3) := by decide +kernel
theorem d_P_cost_4 : decode b_P_cost 4 = .ok (.getfield 207, 3) := by decide +kernel
theorem d_P_cost_7 : decode b_P_cost 7 = .ok (.lreturn, 1) := by decide +kernel
def w_P_cost : List Cond := .code y_P_cost b_P_cost 1 (some .long) :: ([.fieldLink "PartShelves" 43 "PartShelves" "repairPlan" "LPartShelves$RepairPlan;", .fieldLink "PartShelves" 207 "PartShelves$RepairPlan" "total" "J"] ++ u_ws R_P F_P 13 ++ u_ws R_N F_N 4)
set_option maxHeartbeats 4000000 in
set_option maxRecDepth 100000 in
theorem c_P_cost (l : Launch) (D : va_G) (kC : Nat → ClassId) (ad : Nat → Nat) (qR : Nat → Nat) (lp : Nat) (la : Nat) (lj : Nat) (qM : Nat → Nat) (qN : Nat → Nat) (ft : Nat → Int32) (wr : Nat → Nat) (tl : Nat → Int32) (tn : Nat) (bo : Nat → Int32) (lD : Nat → Nat) (td : Nat) (rr : Nat → Nat) (fc : Nat → Nat) (ntot : Int64) (ch : Nat) : Met l y_P_cost w_P_cost ({ frames := 0, cells := 0, slots := 0, locals := 0 } : Room) (gPr cls D (tyL kC) [.ref (ad 0)] (fl [(wP kC ad qR lp la lj qM qN ft wr tl tn bo lD td), (wN kC qN rr fc ntot ch)])) (vp_Sl (fun r => r = ntot)) 0 0 (fun _ => False) := by
  refine Met.ofW (cc := b_P_cost) (maxL := 1) (ret := (some .long)) (by decide) rfl ?_
  intro p e s m args below meth c s₁ B hml hv
  obtain ⟨rfl, hP, hK⟩ := hv
  have hx := B.exec
  have hb := B.bytes
  have hr := B.returns
  have hts := atoms_spec (ws := w_P_cost) B.pre
  have hown : s.vm.findClass R_P = some m.cls := findClass_of_methodNamed B.named
  have hlocks := B.notSynchronized
  have hl := lv_entry ([.ref (ad 0)]) (n := 1) (Nat.le_of_ble_eq_true rfl)
  rw [lg_entry_eq]
  generalize (lg_sl ([.ref (ad 0)]) ++ List.replicate (1 - (lg_sl ([.ref (ad 0)])).length) Slot.unset).toArray = ls at hl ⊢
  have hl : lv_has ls 1 [(0, .ref (ad 0))] := hl
  refine lv_aload_n hx hb d_P_cost_0 rfl (lv_at hl 0 rfl) ?_
  refine fv_get (ci := 0) (v := .ref (qN 0)) (C := R_P) (T := F_P) (N := 13) hx hb hts (by decide +kernel) hown hK hP 0 0 rfl rfl rfl 6 (by decide) (hts (.fieldLink R_P 43 "PartShelves" "repairPlan" "LPartShelves$RepairPlan;") (by decide +kernel)) (fun _ h9 => h9) rfl d_P_cost_1 ?_
  refine fv_get (ci := 6) (v := .long ntot) (C := R_N) (T := F_N) (N := 4) hx hb hts (by decide +kernel) hown hK hP 1 0 rfl rfl rfl 2 (by decide) (hts (.fieldLink R_P 207 "PartShelves$RepairPlan" "total" "J") (by decide +kernel)) (fun _ h9 => h9) rfl d_P_cost_4 ?_
  exact W.lret (v := ntot) hx hb hr (fun t ht hW => ⟨_, rfl, rfl, ht⟩) t_nil d_P_cost_7

abbrev b_P_does : ByteArray := prog_1_method_19_code
def y_P_does : MethodName := ⟨"PartShelves", "does", "(I)Z"⟩
theorem d_P_does_0 : decode b_P_does 0 = .ok (.iload_n 1, 1) := by decide +kernel
theorem d_P_does_1 : decode b_P_does 1 = .ok (.ifCond .lt 27, 3) := by decide +kernel
theorem d_P_does_4 : decode b_P_does 4 = .ok (.iload_n 1, 1) := by decide +kernel
theorem d_P_does_5 : decode b_P_does 5 = .ok (.bipush 6, 2) := by decide +kernel
theorem d_P_does_7 : decode b_P_does 7 = .ok (.if_icmp .ge 21, 3) := by decide +kernel
theorem d_P_does_10 : decode b_P_does 10 = .ok (.aload_n 0, 1) := by decide +kernel
theorem d_P_does_11 : decode b_P_does 11 = .ok (.getfield 43, 3) := by decide +kernel
theorem d_P_does_14 : decode b_P_does 14 = .ok (.getfield 208, 3) := by decide +kernel
theorem d_P_does_17 : decode b_P_does 17 = .ok (.iload_n 1, 1) := by decide +kernel
theorem d_P_does_18 : decode b_P_does 18 = .ok (.invokestatic 211, 3) := by decide +kernel
theorem d_P_does_21 : decode b_P_does 21 = .ok (.ifCond .eq 7, 3) := by decide +kernel
theorem d_P_does_24 : decode b_P_does 24 = .ok (.iconst 1, 1) := by decide +kernel
theorem d_P_does_25 : decode b_P_does 25 = .ok (.goto 4, 3) := by decide +kernel
theorem d_P_does_28 : decode b_P_does 28 = .ok (.iconst 0, 1) := by decide +kernel
theorem d_P_does_29 : decode b_P_does 29 = .ok (.ireturn, 1) := by decide +kernel
def w_P_does : List Cond := .code y_P_does b_P_does 2 (some .boolean) :: ([.fieldLink "PartShelves" 43 "PartShelves" "repairPlan" "LPartShelves$RepairPlan;", .fieldLink "PartShelves" 208 "PartShelves$RepairPlan" "chosen" "I", .methodLink "PartShelves" 211 ⟨"PartShelves", "hasMember", "(II)Z"⟩, .static ⟨"PartShelves", "hasMember", "(II)Z"⟩, .initialized "PartShelves", .code ⟨"PartShelves", "hasMember", "(II)Z"⟩ prog_1_method_32_code 2 (some .boolean)] ++ u_ws R_P F_P 13 ++ u_ws R_N F_N 4)
set_option maxRecDepth 20000 in
theorem g_P_does_P_hasMember : GoodIn w_P_does (wsS R_P 211 y_P_hasMember w_P_hasMember) := goodIn_p _ [6] rfl (by decide +kernel)
set_option maxHeartbeats 4000000 in
set_option maxRecDepth 100000 in
theorem c_P_does (l : Launch) (D : va_G) (kC : Nat → ClassId) (ad : Nat → Nat) (qR : Nat → Nat) (lp : Nat) (la : Nat) (lj : Nat) (qM : Nat → Nat) (qN : Nat → Nat) (ft : Nat → Int32) (wr : Nat → Nat) (tl : Nat → Int32) (tn : Nat) (bo : Nat → Int32) (lD : Nat → Nat) (td : Nat) (rr : Nat → Nat) (fc : Nat → Nat) (ntot : Int64) (ch : Nat) (x : Int32) (hch : ch < 64) : Met l y_P_does w_P_does ({ frames := 4, cells := 0, slots := 0, locals := 90 } : Room) (gPr cls D (tyL kC) [.ref (ad 0), .int x] (fl [(wP kC ad qR lp la lj qM qN ft wr tl tn bo lD td), (wN kC qN rr fc ntot ch)])) (vp_Si (fun r => r = bI (inR x 6 ∧ ch / 2 ^ nOf x % 2 = 1))) 0 0 (fun _ => False) := by
  refine Met.ofW (cc := b_P_does) (maxL := 2) (ret := (some .boolean)) (by decide) rfl ?_
  intro p e s m args below meth c s₁ B hml hv
  obtain ⟨rfl, hP, hK⟩ := hv
  have hx := B.exec
  have hb := B.bytes
  have hr := B.returns
  have hts := atoms_spec (ws := w_P_does) B.pre
  have hown : s.vm.findClass R_P = some m.cls := findClass_of_methodNamed B.named
  have hlocks := B.notSynchronized
  have hl := lv_entry ([.ref (ad 0), .int x]) (n := 2) (Nat.le_of_ble_eq_true rfl)
  rw [lg_entry_eq]
  generalize (lg_sl ([.ref (ad 0), .int x]) ++ List.replicate (2 - (lg_sl ([.ref (ad 0), .int x])).length) Slot.unset).toArray = ls at hl ⊢
  have hl : lv_has ls 2 [(0, .ref (ad 0)), (1, .int x)] := hl
  refine lv_iload_n hx hb d_P_does_0 rfl (lv_at hl 1 rfl) ?_
  refine lv_if_lt (tgt := 28) hx hb d_P_does_1 (by decide) (fun h0 => ?_) (fun h0 => ?_)
  · refine lv_iconst (v := nI 0) hx hb d_P_does_28 (by decide) ?_
    exact W.zret (v := nI 0) hx hb hr (nar_b (by first | exact Or.inl rfl | exact Or.inr rfl | exact bI_01)) (fun t ht hW => ⟨_, rfl, (bI_f (fun q => by first | (have q2 := q.2; rw [nOf_nI (by omega)] at q2; exact bI_0.mp h2 q2) | exact inR_ge (by decide) h1 q.1 | exact inR_lt h0 q.1)).symm, ht⟩) t_nil d_P_does_29
  · refine lv_iload_n hx hb d_P_does_4 rfl (lv_at hl 1 rfl) ?_
    refine lv_bipush (v := nI 6) hx hb d_P_does_5 (by decide +kernel) ?_
    refine lv_icmp_ge (tgt := 28) hx hb d_P_does_7 (by decide) (fun h1 => ?_) (fun h1 => ?_)
    · refine lv_iconst (v := nI 0) hx hb d_P_does_28 (by decide) ?_
      exact W.zret (v := nI 0) hx hb hr (nar_b (by first | exact Or.inl rfl | exact Or.inr rfl | exact bI_01)) (fun t ht hW => ⟨_, rfl, (bI_f (fun q => by first | (have q2 := q.2; rw [nOf_nI (by omega)] at q2; exact bI_0.mp h2 q2) | exact inR_ge (by decide) h1 q.1 | exact inR_lt h0 q.1)).symm, ht⟩) t_nil d_P_does_29
    · obtain ⟨j, hj, rfl⟩ := in_of (by decide) h0 h1
      refine lv_aload_n hx hb d_P_does_10 rfl (lv_at hl 0 rfl) ?_
      refine fv_get (ci := 0) (v := .ref (qN 0)) (C := R_P) (T := F_P) (N := 13) hx hb hts (by decide +kernel) hown hK hP 0 0 rfl rfl rfl 6 (by decide) (hts (.fieldLink R_P 43 "PartShelves" "repairPlan" "LPartShelves$RepairPlan;") (by decide +kernel)) (fun _ h9 => h9) rfl d_P_does_11 ?_
      refine fv_get (ci := 6) (v := .int (nI ch)) (C := R_N) (T := F_N) (N := 4) hx hb hts (by decide +kernel) hown hK hP 1 0 rfl rfl rfl 3 (by decide) (hts (.fieldLink R_P 208 "PartShelves$RepairPlan" "chosen" "I") (by decide +kernel)) (fun _ h9 => h9) rfl d_P_does_14 ?_
      refine lv_iload_n hx hb d_P_does_17 rfl (lv_at hl 1 rfl) ?_
      refine r_calli (W.runS (As := [.int (nI ch), .int (nI j)]) (rest := []) ⟨hx, hb, hml, hown, hts⟩ (c_P_hasM l ch j (by omega) (by omega)) (cwS 2 hts g_P_does_P_hasMember rfl rfl rfl (by decide +kernel) ⟨Nat.le_of_ble_eq_true rfl, Nat.le_of_ble_eq_true rfl⟩) p0_preS rfl rfl hl.1 rfl (lv_room (Nat.le_of_ble_eq_true rfl)) d_P_does_18 ⟨Nat.le_of_ble_eq_true rfl, Nat.le_of_ble_eq_true rfl⟩) ?_
      refine lv_if_eq (tgt := 28) hx hb d_P_does_21 (by decide) (fun h2 => ?_) (fun h2 => ?_)
      · refine lv_iconst (v := nI 0) hx hb d_P_does_28 (by decide) ?_
        exact W.zret (v := nI 0) hx hb hr (nar_b (by first | exact Or.inl rfl | exact Or.inr rfl | exact bI_01)) (fun t ht hW => ⟨_, rfl, (bI_f (fun q => by first | (have q2 := q.2; rw [nOf_nI (by omega)] at q2; exact bI_0.mp h2 q2) | exact inR_ge (by decide) h1 q.1 | exact inR_lt h0 q.1)).symm, ht⟩) t_nil d_P_does_29
      · refine lv_iconst (v := nI 1) hx hb d_P_does_24 (by decide) ?_
        refine lv_goto (tgt := 29) hx hb d_P_does_25 (by decide) ?_
        exact W.zret (v := nI 1) hx hb hr (nar_b (by first | exact Or.inl rfl | exact Or.inr rfl | exact bI_01)) (fun t ht hW => ⟨_, rfl, (bI_t ⟨(inR_nI (by omega)).mpr hj, by rw [nOf_nI (by omega)]; exact bI_n0.mp h2⟩).symm, ht⟩) t_nil d_P_does_29

abbrev b_P_recalled : ByteArray := prog_1_method_23_code
def y_P_recalled : MethodName := ⟨"PartShelves", "recalled", "(I)I"⟩
theorem d_P_recalled_0 : decode b_P_recalled 0 = .ok (.iload_n 1, 1) := by decide +kernel
theorem d_P_recalled_1 : decode b_P_recalled 1 = .ok (.ifCond .lt 20, 3) := by decide +kernel
theorem d_P_recalled_4 : decode b_P_recalled 4 = .ok (.iload_n 1, 1) := by decide +kernel
theorem d_P_recalled_5 : decode b_P_recalled 5 = .ok (.aload_n 0, 1) := by decide +kernel
theorem d_P_recalled_6 : decode b_P_recalled 6 = .ok (.getfield 54, 3) := by decide +kernel
theorem d_P_recalled_9 : decode b_P_recalled 9 = .ok (.if_icmp .ge 12, 3) := by decide +kernel
theorem d_P_recalled_12 : decode b_P_recalled 12 = .ok (.aload_n 0, 1) := by decide +kernel
theorem d_P_recalled_13 : decode b_P_recalled 13 = .ok (.getfield 51, 3) := by decide +kernel
theorem d_P_recalled_16 : decode b_P_recalled 16 = .ok (.iload_n 1, 1) := by decide +kernel
theorem d_P_recalled_17 : decode b_P_recalled 17 = .ok (.iaload, 1) := by decide +kernel
theorem d_P_recalled_18 : decode b_P_recalled 18 = .ok (.goto 4, 3) := by decide +kernel
theorem d_P_recalled_21 : decode b_P_recalled 21 = .ok (.iconst (-1), 1) := by decide +kernel
theorem d_P_recalled_22 : decode b_P_recalled 22 = .ok (.ireturn, 1) := by decide +kernel
def w_P_recalled : List Cond := .code y_P_recalled b_P_recalled 2 (some .int) :: ([.fieldLink "PartShelves" 54 "PartShelves" "toldCount" "I", .fieldLink "PartShelves" 51 "PartShelves" "toldAsSold" "[I"] ++ u_ws R_P F_P 13)
set_option maxHeartbeats 4000000 in
set_option maxRecDepth 100000 in
theorem c_P_recalled (l : Launch) (D : va_G) (kC : Nat → ClassId) (ad : Nat → Nat) (qR : Nat → Nat) (lp : Nat) (la : Nat) (lj : Nat) (qM : Nat → Nat) (qN : Nat → Nat) (ft : Nat → Int32) (wr : Nat → Nat) (tl : Nat → Int32) (tn : Nat) (bo : Nat → Int32) (lD : Nat → Nat) (td : Nat) (x : Int32) (htn : tn ≤ 8) : Met l y_P_recalled w_P_recalled ({ frames := 0, cells := 0, slots := 0, locals := 0 } : Room) (gPr cls D (tyL kC) [.ref (ad 0), .int x] (fl [(wP kC ad qR lp la lj qM qN ft wr tl tn bo lD td)])) (vp_Si (fun r => r = atR tl (-1) x tn)) 0 0 (fun _ => False) := by
  refine Met.ofW (cc := b_P_recalled) (maxL := 2) (ret := (some .int)) (by decide) rfl ?_
  intro p e s m args below meth c s₁ B hml hv
  obtain ⟨rfl, hP, hK⟩ := hv
  have hx := B.exec
  have hb := B.bytes
  have hr := B.returns
  have hts := atoms_spec (ws := w_P_recalled) B.pre
  have hown : s.vm.findClass R_P = some m.cls := findClass_of_methodNamed B.named
  have hlocks := B.notSynchronized
  have hl := lv_entry ([.ref (ad 0), .int x]) (n := 2) (Nat.le_of_ble_eq_true rfl)
  rw [lg_entry_eq]
  generalize (lg_sl ([.ref (ad 0), .int x]) ++ List.replicate (2 - (lg_sl ([.ref (ad 0), .int x])).length) Slot.unset).toArray = ls at hl ⊢
  have hl : lv_has ls 2 [(0, .ref (ad 0)), (1, .int x)] := hl
  refine lv_iload_n hx hb d_P_recalled_0 rfl (lv_at hl 1 rfl) ?_
  refine lv_if_lt (tgt := 21) hx hb d_P_recalled_1 (by decide) (fun h0 => ?_) (fun h0 => ?_)
  · refine lv_iconst (v := (-1)) hx hb d_P_recalled_21 (by decide) ?_
    exact W.iret (v := (-1)) hx hb hr (fun t ht hW => ⟨_, rfl, (atR_no (by first | exact inR_ge (by omega) h1 | exact inR_lt h0)).symm, ht⟩) t_nil d_P_recalled_22
  · refine lv_iload_n hx hb d_P_recalled_4 rfl (lv_at hl 1 rfl) ?_
    refine lv_aload_n hx hb d_P_recalled_5 rfl (lv_at hl 0 rfl) ?_
    refine fv_get (ci := 0) (v := .int (nI tn)) (C := R_P) (T := F_P) (N := 13) hx hb hts (by decide +kernel) hown hK hP 0 0 rfl rfl rfl 9 (by decide) (hts (.fieldLink R_P 54 "PartShelves" "toldCount" "I") (by decide +kernel)) (fun _ h9 => h9) rfl d_P_recalled_6 ?_
    refine lv_icmp_ge (tgt := 21) hx hb d_P_recalled_9 (by decide) (fun h1 => ?_) (fun h1 => ?_)
    · refine lv_iconst (v := (-1)) hx hb d_P_recalled_21 (by decide) ?_
      exact W.iret (v := (-1)) hx hb hr (fun t ht hW => ⟨_, rfl, (atR_no (by first | exact inR_ge (by omega) h1 | exact inR_lt h0)).symm, ht⟩) t_nil d_P_recalled_22
    · obtain ⟨j, hj, rfl⟩ := in_of (by omega) h0 h1
      refine lv_aload_n hx hb d_P_recalled_12 rfl (lv_at hl 0 rfl) ?_
      refine fv_get (ci := 0) (v := .ref (ad 3)) (C := R_P) (T := F_P) (N := 13) hx hb hts (by decide +kernel) hown hK hP 0 0 rfl rfl rfl 8 (by decide) (hts (.fieldLink R_P 51 "PartShelves" "toldAsSold" "[I") (by decide +kernel)) (fun _ h9 => h9) rfl d_P_recalled_13 ?_
      refine lv_iload_n hx hb d_P_recalled_16 rfl (lv_at hl 1 rfl) ?_
      refine fa_iald hx hb hK hP 0 3 0 rfl rfl rfl (by omega) (by decide) d_P_recalled_17 ?_
      refine lv_goto (tgt := 22) hx hb d_P_recalled_18 (by decide) ?_
      exact W.iret (v := tl j) hx hb hr (fun t ht hW => ⟨_, rfl, (atR_nI hj (by omega)).symm, ht⟩) t_nil d_P_recalled_22

abbrev b_P_late : ByteArray := prog_1_method_26_code
def y_P_late : MethodName := ⟨"PartShelves", "late", "(I)I"⟩
theorem d_P_late_0 : decode b_P_late 0 = .ok (.iconst 0, 1) := by decide +kernel
theorem d_P_late_1 : decode b_P_late 1 = .ok (.istore_n 2, 1) := by decide +kernel
theorem d_P_late_2 : decode b_P_late 2 = .ok (.iconst 0, 1) := by decide +kernel
theorem d_P_late_3 : decode b_P_late 3 = .ok (.istore_n 3, 1) := by decide +kernel
theorem d_P_late_4 : decode b_P_late 4 = .ok (.iload_n 3, 1) := by decide +kernel
theorem d_P_late_5 : decode b_P_late 5 = .ok (.iconst 4, 1) := by decide +kernel
theorem d_P_late_6 : decode b_P_late 6 = .ok (.if_icmp .ge 42, 3) := by decide +kernel
theorem d_P_late_9 : decode b_P_late 9 = .ok (.aload_n 0, 1) := by decide +kernel
theorem d_P_late_10 : decode b_P_late 10 = .ok (.getfield 58, 3) := by decide +kernel
theorem d_P_late_13 : decode b_P_late 13 = .ok (.iload_n 3, 1) := by decide +kernel
theorem d_P_late_14 : decode b_P_late 14 = .ok (.iaload, 1) := by decide +kernel
theorem d_P_late_15 : decode b_P_late 15 = .ok (.iconst (-1), 1) := by decide +kernel
theorem d_P_late_16 : decode b_P_late 16 = .ok (.if_icmp .eq 26, 3) := by decide +kernel
theorem d_P_late_19 : decode b_P_late 19 = .ok (.aload_n 0, 1) := by decide +kernel
theorem d_P_late_20 : decode b_P_late 20 = .ok (.getfield 61, 3) := by decide +kernel
theorem d_P_late_23 : decode b_P_late 23 = .ok (.iload_n 3, 1) := by decide +kernel
theorem d_P_late_24 : decode b_P_late 24 = .ok (.iaload, 1) := by decide +kernel
theorem d_P_late_25 : decode b_P_late 25 = .ok (.aload_n 0, 1) := by decide +kernel
theorem d_P_late_26 : decode b_P_late 26 = .ok (.getfield 64, 3) := by decide +kernel
theorem d_P_late_29 : decode b_P_late 29 = .ok (.if_icmp .ge 13, 3) := by decide +kernel
theorem d_P_late_32 : decode b_P_late 32 = .ok (.iload_n 2, 1) := by decide +kernel
theorem d_P_late_33 : decode b_P_late 33 = .ok (.iload_n 1, 1) := by decide +kernel
theorem d_P_late_34 : decode b_P_late 34 = .ok (.if_icmp .ne 5, 3) := by decide +kernel
theorem d_P_late_37 : decode b_P_late 37 = .ok (.iload_n 3, 1) := by decide +kernel
theorem d_P_late_38 : decode b_P_late 38 = .ok (.ireturn, 1) := by decide +kernel
theorem d_P_late_39 : decode b_P_late 39 = .ok (.iinc 2 1, 3) := by decide +kernel
theorem d_P_late_42 : decode b_P_late 42 = .ok (.iinc 3 1, 3) := by decide +kernel
theorem d_P_late_45 : decode b_P_late 45 = .ok (.goto (-41), 3) := by decide +kernel
theorem d_P_late_48 : decode b_P_late 48 = .ok (.iconst (-1), 1) := by decide +kernel
theorem d_P_late_49 : decode b_P_late 49 = .ok (.ireturn, 1) := by decide +kernel
def w_P_late : List Cond := .code y_P_late b_P_late 4 (some .int) :: ([.fieldLink "PartShelves" 58 "PartShelves" "borrowers" "[I", .fieldLink "PartShelves" 61 "PartShelves" "lentUpTo" "[I", .fieldLink "PartShelves" 64 "PartShelves" "currentDay" "I"] ++ u_ws R_P F_P 13)
theorem lb_n {x : Int32} (h : ¬ x = -1) : ¬ (if x = -1 then (0 : Int32) else 1) = 0 := by rw [if_neg h]; decide
theorem lb_y {x : Int32} (h : x = -1) : (if x = -1 then (0 : Int32) else 1) = 0 := if_pos h
set_option maxHeartbeats 4000000 in
set_option maxRecDepth 100000 in
theorem c_P_late (l : Launch) (D : va_G) (kC : Nat → ClassId) (ad : Nat → Nat) (qR : Nat → Nat) (lp : Nat) (la : Nat) (lj : Nat) (qM : Nat → Nat) (qN : Nat → Nat) (ft : Nat → Int32) (wr : Nat → Nat) (tl : Nat → Int32) (tn : Nat) (bo : Nat → Int32) (lD : Nat → Nat) (td : Nat) (x : Int32) (htd : td ≤ 100000) (hlD : ∀ j, lD j ≤ 100000) : Met l y_P_late w_P_late ({ frames := 0, cells := 0, slots := 0, locals := 0 } : Room) (gPr cls D (tyL kC) [.ref (ad 0), .int x] (fl [(wP kC ad qR lp la lj qM qN ft wr tl tn bo lD td)])) (vp_Si (fun r => r = lateM (fun t => if bo t = -1 then 0 else 1) lD td x 4 0 0)) 0 0 (fun _ => False) := by
  refine Met.ofW (cc := b_P_late) (maxL := 4) (ret := (some .int)) (by decide) rfl ?_
  intro p e s m args below meth c s₁ B hml hv
  obtain ⟨rfl, hP, hK⟩ := hv
  have hx := B.exec
  have hb := B.bytes
  have hr := B.returns
  have hts := atoms_spec (ws := w_P_late) B.pre
  have hown : s.vm.findClass R_P = some m.cls := findClass_of_methodNamed B.named
  have hlocks := B.notSynchronized
  have hl := lv_entry ([.ref (ad 0), .int x]) (n := 4) (Nat.le_of_ble_eq_true rfl)
  rw [lg_entry_eq]
  generalize (lg_sl ([.ref (ad 0), .int x]) ++ List.replicate (4 - (lg_sl ([.ref (ad 0), .int x])).length) Slot.unset).toArray = ls at hl ⊢
  have hl : lv_has ls 4 [(0, .ref (ad 0)), (1, .int x)] := hl
  refine lv_iconst (v := nI 0) hx hb d_P_late_0 (by decide) ?_
  refine lv_istore_n (lv' := [(2, .int (nI 0)), (0, .ref (ad 0)), (1, .int x)]) hx hb d_P_late_1 rfl hl (by decide) rfl (fun ls hl => ?_)
  refine lv_iconst (v := nI 0) hx hb d_P_late_2 (by decide) ?_
  refine lv_istore_n (lv' := [(3, .int (nI 0)), (2, .int (nI 0)), (0, .ref (ad 0)), (1, .int x)]) hx hb d_P_late_3 rfl hl (by decide) rfl (fun ls hl => ?_)
  have L4 : ∀ (n4 : Nat) (t : Nat) (z : Nat) (f : Nat), f < n4 → t + f = 4 → z ≤ t → lateM (fun t => if bo t = -1 then 0 else 1) lD td x f t z = lateM (fun t => if bo t = -1 then 0 else 1) lD td x 4 0 0 → ∀ (ls : Array Slot), lv_has ls 4 [(0, .ref (ad 0)), (1, .int x), (2, .int (nI z)), (3, .int (nI t))] → W p l e (headSpec w_P_late ({ frames := 0, cells := 0, slots := 0, locals := 0 } : Room)).room s m ([.ref (ad 0), .int x] : List Value).toArray below meth c s.heap [] 0 0 (MQ below (vp_Si (fun r => r = lateM (fun t => if bo t = -1 then 0 else 1) lD td x 4 0 0)) ([.ref (ad 0), .int x] : List Value).toArray s 0 0 (fun _ => False)) (F0 m 4 ls []) := by
    intro n4
    induction n4 with
    | zero =>
      intro t z f hm
      exact absurd hm (Nat.not_lt_zero _)
    | succ n4 ih4 =>
      intro t z f hm hf hz hL ls hl
      refine lv_iload_n hx hb d_P_late_4 rfl (lv_at hl 3 rfl) ?_
      refine lv_iconst (v := nI 4) hx hb d_P_late_5 (by decide) ?_
      refine nv_icmp_ge (tgt := 48) hx hb d_P_late_6 (by decide) (by omega) (by omega) (fun h0 => ?_) (fun h0 => ?_)
      · obtain rfl : f = 0 := by omega
        refine lv_iconst (v := (-1)) hx hb d_P_late_48 (by decide) ?_
        exact W.iret (v := (-1)) hx hb hr (fun t ht hW => ⟨_, rfl, hL, ht⟩) t_nil d_P_late_49
      · obtain ⟨g, rfl⟩ : ∃ g, f = g + 1 := ⟨f - 1, by omega⟩
        refine lv_aload_n hx hb d_P_late_9 rfl (lv_at hl 0 rfl) ?_
        refine fv_get (ci := 0) (v := .ref (ad 4)) (C := R_P) (T := F_P) (N := 13) hx hb hts (by decide +kernel) hown hK hP 0 0 rfl rfl rfl 10 (by decide) (hts (.fieldLink R_P 58 "PartShelves" "borrowers" "[I") (by decide +kernel)) (fun _ h9 => h9) rfl d_P_late_10 ?_
        refine lv_iload_n hx hb d_P_late_13 rfl (lv_at hl 3 rfl) ?_
        refine fa_iald hx hb hK hP 0 4 0 rfl rfl rfl (by omega) (by decide) d_P_late_14 ?_
        refine lv_iconst (v := (-1)) hx hb d_P_late_15 (by decide) ?_
        refine lv_icmp_eq (tgt := 42) hx hb d_P_late_16 (by decide) (fun h1 => ?_) (fun h1 => ?_)
        · refine lv_iinc (v := nI (t + 1)) (lv' := [(3, .int (nI (t + 1))), (0, .ref (ad 0)), (1, .int x), (2, .int (nI z))]) hx hb d_P_late_42 hl (k := 3) rfl (nI_1 t) (by decide) rfl (fun ls hl => ?_)
          refine lv_goto (tgt := 4) hx hb d_P_late_45 (by decide) ?_
          exact ih4 (t + 1) z g (by omega) (by omega) (by omega) (by rw [← hL]; exact (if_neg (fun q => by first | exact q.1 (lb_y h1) | (have := q.2; omega))).symm) ls (lv_sub hl [1, 2, 3, 0] rfl)
        · refine lv_aload_n hx hb d_P_late_19 rfl (lv_at hl 0 rfl) ?_
          refine fv_get (ci := 0) (v := .ref (ad 5)) (C := R_P) (T := F_P) (N := 13) hx hb hts (by decide +kernel) hown hK hP 0 0 rfl rfl rfl 11 (by decide) (hts (.fieldLink R_P 61 "PartShelves" "lentUpTo" "[I") (by decide +kernel)) (fun _ h9 => h9) rfl d_P_late_20 ?_
          refine lv_iload_n hx hb d_P_late_23 rfl (lv_at hl 3 rfl) ?_
          refine fa_ialdN hx hb hK hP 0 5 0 rfl rfl rfl (by omega) (by decide) d_P_late_24 ?_
          refine lv_aload_n hx hb d_P_late_25 rfl (lv_at hl 0 rfl) ?_
          refine fv_get (ci := 0) (v := .int (nI td)) (C := R_P) (T := F_P) (N := 13) hx hb hts (by decide +kernel) hown hK hP 0 0 rfl rfl rfl 12 (by decide) (hts (.fieldLink R_P 64 "PartShelves" "currentDay" "I") (by decide +kernel)) (fun _ h9 => h9) rfl d_P_late_26 ?_
          refine nv_icmp_ge (tgt := 42) hx hb d_P_late_29 (by decide) (by have := hlD t; omega) (by omega) (fun h2 => ?_) (fun h2 => ?_)
          · refine lv_iinc (v := nI (t + 1)) (lv' := [(3, .int (nI (t + 1))), (0, .ref (ad 0)), (1, .int x), (2, .int (nI z))]) hx hb d_P_late_42 hl (k := 3) rfl (nI_1 t) (by decide) rfl (fun ls hl => ?_)
            refine lv_goto (tgt := 4) hx hb d_P_late_45 (by decide) ?_
            exact ih4 (t + 1) z g (by omega) (by omega) (by omega) (by rw [← hL]; exact (if_neg (fun q => by first | exact q.1 (lb_y h1) | (have := q.2; omega))).symm) ls (lv_sub hl [1, 2, 3, 0] rfl)
          · refine lv_iload_n hx hb d_P_late_32 rfl (lv_at hl 2 rfl) ?_
            refine lv_iload_n hx hb d_P_late_33 rfl (lv_at hl 1 rfl) ?_
            refine lv_icmp_ne (tgt := 39) hx hb d_P_late_34 (by decide) (fun h3 => ?_) (fun h3 => ?_)
            · refine lv_iinc (v := nI (z + 1)) (lv' := [(2, .int (nI (z + 1))), (0, .ref (ad 0)), (1, .int x), (3, .int (nI t))]) hx hb d_P_late_39 hl (k := 2) rfl (nI_1 z) (by decide) rfl (fun ls hl => ?_)
              refine lv_iinc (v := nI (t + 1)) (lv' := [(3, .int (nI (t + 1))), (2, .int (nI (z + 1))), (0, .ref (ad 0)), (1, .int x)]) hx hb d_P_late_42 hl (k := 3) rfl (nI_1 t) (by decide) rfl (fun ls hl => ?_)
              refine lv_goto (tgt := 4) hx hb d_P_late_45 (by decide) ?_
              exact ih4 (t + 1) (z + 1) g (by omega) (by omega) (by omega) (by rw [← hL]; simp only [lateM]; rw [if_pos ⟨lb_n h1, h2⟩, if_neg h3]) ls (lv_sub hl [2, 3, 1, 0] rfl)
            · refine lv_iload_n hx hb d_P_late_37 rfl (lv_at hl 3 rfl) ?_
              exact W.iret (v := nI t) hx hb hr (fun t ht hW => ⟨_, rfl, by rw [← hL]; simp only [lateM]; rw [if_pos ⟨lb_n h1, h2⟩, if_pos h3], ht⟩) t_nil d_P_late_38
  exact L4 _ 0 0 4 (Nat.lt_succ_self _) (rfl) (Nat.le_refl _) (rfl) ls (lv_sub hl [2, 3, 1, 0] rfl)

