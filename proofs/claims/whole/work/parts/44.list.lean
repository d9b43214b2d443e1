def R_LA : String := "java/util/AbstractList"
def R_LC : String := "java/util/AbstractCollection"
def R_LO : String := "java/util/Objects"
def R_LP : String := "jdk/internal/util/Preconditions"
def R_LI : String := "java/lang/Integer"
/-- a list's object -/
def wLo (h : Nat) (md : Int32) (x n : Nat) : va_W := [(h, .inr (8, [.int md, .ref x, .int (nI n)]))]
/-- a list's places -/
def wLa (kC : Nat → ClassId) (x : Nat) (rf : Nat → Option Nat) : va_W := [(x, .inl (kC 3, 10, .inr (.inr (.inr (.inr rf)))))]
abbrev b_L_size : ByteArray := prog_18_method_8_code
def y_L_size : MethodName := ⟨"java/util/ArrayList", "size", "()I"⟩
theorem d_L_size_0 : decode b_L_size 0 = .ok (.aload_n 0, 1) := by decide +kernel
theorem d_L_size_1 : decode b_L_size 1 = .ok (.getfield 48, 3) := by decide +kernel
theorem d_L_size_4 : decode b_L_size 4 = .ok (.ireturn, 1) := by decide +kernel
def w_L_size : List Cond := .code y_L_size b_L_size 1 (some .int) :: ([.fieldLink "java/util/ArrayList" 48 "java/util/ArrayList" "size" "I", .sameField "java/util/ArrayList" "java/util/AbstractList" "modCount" "I"] ++ u_ws R_L F_L 3)
set_option maxHeartbeats 4000000 in
set_option maxRecDepth 100000 in
theorem c_L_size (l : Launch) (D : va_G) (kC : Nat → ClassId) (h : Nat) (md : Int32) (x : Nat) (n : Nat) : Met l y_L_size w_L_size ({ frames := 0, cells := 0, slots := 0, locals := 0 } : Room) (gPr cls D (tyL kC) [.ref h] (fl [(wLo h md x n)])) (vp_Si (fun r => r = nI n)) 0 0 (fun _ => False) := by
  refine Met.ofW (cc := b_L_size) (maxL := 1) (ret := (some .int)) (by decide) rfl ?_
  intro p e s m args below meth c s₁ B hml hv
  obtain ⟨rfl, hP, hK⟩ := hv
  have hx := B.exec
  have hb := B.bytes
  have hr := B.returns
  have hts := atoms_spec (ws := w_L_size) B.pre
  have hown : s.vm.findClass R_L = some m.cls := findClass_of_methodNamed B.named
  have hlocks := B.notSynchronized
  have hl := lv_entry ([.ref h]) (n := 1) (Nat.le_of_ble_eq_true rfl)
  rw [lg_entry_eq]
  generalize (lg_sl ([.ref h]) ++ List.replicate (1 - (lg_sl ([.ref h])).length) Slot.unset).toArray = ls at hl ⊢
  have hl : lv_has ls 1 [(0, .ref h)] := hl
  refine lv_aload_n hx hb d_L_size_0 rfl (lv_at hl 0 rfl) ?_
  refine fv_get (ci := 8) (v := .int (nI n)) (C := R_L) (T := F_L) (N := 3) hx hb hts (by decide +kernel) hown hK hP 0 0 rfl rfl rfl 2 (by decide) (hts (.fieldLink R_L 48 "java/util/ArrayList" "size" "I") (by decide +kernel)) (fun _ h9 => h9) rfl d_L_size_1 ?_
  exact W.iret (v := nI n) hx hb hr (fun t ht hW => ⟨_, rfl, rfl, ht⟩) t_nil d_L_size_4

abbrev b_LP_checkIndex : ByteArray := prog_26_method_11_code
def y_LP_checkIndex : MethodName := ⟨"jdk/internal/util/Preconditions", "checkIndex", "(IILjava/util/function/BiFunction;)I"⟩
theorem d_LP_checkIndex_0 : decode b_LP_checkIndex 0 = .ok (.iload_n 0, 1) := by decide +kernel
theorem d_LP_checkIndex_1 : decode b_LP_checkIndex 1 = .ok (.ifCond .lt 8, 3) := by decide +kernel
theorem d_LP_checkIndex_4 : decode b_LP_checkIndex 4 = .ok (.iload_n 0, 1) := by decide +kernel
theorem d_LP_checkIndex_5 : decode b_LP_checkIndex 5 = .ok (.iload_n 1, 1) := by decide +kernel
theorem d_LP_checkIndex_6 : decode b_LP_checkIndex 6 = .ok (.if_icmp .lt 10, 3) := by decide +kernel
theorem d_LP_checkIndex_9 : decode b_LP_checkIndex 9 = .ok (.aload_n 2, 1) := by decide +kernel
theorem d_LP_checkIndex_10 : decode b_LP_checkIndex 10 = .ok (.iload_n 0, 1) := by decide +kernel
theorem d_LP_checkIndex_11 : decode b_LP_checkIndex 11 = .ok (.iload_n 1, 1) := by decide +kernel
theorem d_LP_checkIndex_12 : decode b_LP_checkIndex 12 = .ok (.invokestatic 95, 3) := by decide +kernel
theorem d_LP_checkIndex_15 : decode b_LP_checkIndex 15 = .ok (.athrow, 1) := by decide +kernel
theorem d_LP_checkIndex_16 : decode b_LP_checkIndex 16 = .ok (.iload_n 0, 1) := by decide +kernel
theorem d_LP_checkIndex_17 : decode b_LP_checkIndex 17 = .ok (.ireturn, 1) := by decide +kernel
def w_LP_checkIndex : List Cond := .code y_LP_checkIndex b_LP_checkIndex 3 (some .int) :: ([])
set_option maxHeartbeats 4000000 in
set_option maxRecDepth 100000 in
theorem c_LP_chk (l : Launch) (i : Nat) (n : Nat) (hin : i < n) (hn : n < 2 ^ 31) : Met l y_LP_checkIndex w_LP_checkIndex ({ frames := 0, cells := 0, slots := 0, locals := 0 } : Room) (gP0 [.int (nI i), .int (nI n), .null]) (vp_Si (fun r => r = nI i)) 0 0 (fun _ => False) := by
  refine Met.ofW (cc := b_LP_checkIndex) (maxL := 3) (ret := (some .int)) (by decide) rfl ?_
  intro p e s m args below meth c s₁ B hml hv
  obtain rfl := hv
  have hx := B.exec
  have hb := B.bytes
  have hr := B.returns
  have hts := atoms_spec (ws := w_LP_checkIndex) B.pre
  have hown : s.vm.findClass R_LP = some m.cls := findClass_of_methodNamed B.named
  have hlocks := B.notSynchronized
  have hl := lv_entry ([.int (nI i), .int (nI n), .null]) (n := 3) (Nat.le_of_ble_eq_true rfl)
  rw [lg_entry_eq]
  generalize (lg_sl ([.int (nI i), .int (nI n), .null]) ++ List.replicate (3 - (lg_sl ([.int (nI i), .int (nI n), .null])).length) Slot.unset).toArray = ls at hl ⊢
  have hl : lv_has ls 3 [(0, .int (nI i)), (1, .int (nI n)), (2, .null)] := hl
  refine lv_iload_n hx hb d_LP_checkIndex_0 rfl (lv_at hl 0 rfl) ?_
  refine nv_if_lt (tgt := 9) hx hb d_LP_checkIndex_1 (by decide) (by omega) ?_
  refine lv_iload_n hx hb d_LP_checkIndex_4 rfl (lv_at hl 0 rfl) ?_
  refine lv_iload_n hx hb d_LP_checkIndex_5 rfl (lv_at hl 1 rfl) ?_
  refine nv_icmp_lt (tgt := 16) hx hb d_LP_checkIndex_6 (by decide) (by omega) (by omega) (fun c2 => ?_) (fun c2 => ?_)
  · refine lv_iload_n hx hb d_LP_checkIndex_16 rfl (lv_at hl 0 rfl) ?_
    exact W.iret (v := nI i) hx hb hr (fun t ht hW => ⟨_, rfl, rfl, ht⟩) t_nil d_LP_checkIndex_17
  · exact absurd hin (Nat.not_lt.mpr c2)

abbrev b_LO_checkIndex : ByteArray := prog_22_method_17_code
def y_LO_checkIndex : MethodName := ⟨"java/util/Objects", "checkIndex", "(II)I"⟩
theorem d_LO_checkIndex_0 : decode b_LO_checkIndex 0 = .ok (.iload_n 0, 1) := by decide +kernel
theorem d_LO_checkIndex_1 : decode b_LO_checkIndex 1 = .ok (.iload_n 1, 1) := by decide +kernel
theorem d_LO_checkIndex_2 : decode b_LO_checkIndex 2 = .ok (.aconst_null, 1) := by decide +kernel
theorem d_LO_checkIndex_3 : decode b_LO_checkIndex 3 = .ok (.invokestatic 105, 3) := by decide +kernel
theorem d_LO_checkIndex_6 : decode b_LO_checkIndex 6 = .ok (.ireturn, 1) := by decide +kernel
def w_LO_checkIndex : List Cond := .code y_LO_checkIndex b_LO_checkIndex 2 (some .int) :: ([.methodLink "java/util/Objects" 105 ⟨"jdk/internal/util/Preconditions", "checkIndex", "(IILjava/util/function/BiFunction;)I"⟩, .static ⟨"jdk/internal/util/Preconditions", "checkIndex", "(IILjava/util/function/BiFunction;)I"⟩, .initialized "jdk/internal/util/Preconditions", .code ⟨"jdk/internal/util/Preconditions", "checkIndex", "(IILjava/util/function/BiFunction;)I"⟩ prog_26_method_11_code 3 (some .int)])
set_option maxRecDepth 20000 in
theorem g_LO_chk : GoodIn w_LO_checkIndex (va_wsS R_LO 105 y_LP_checkIndex w_LP_checkIndex) := goodIn_p _ [4] rfl (by decide +kernel)
set_option maxHeartbeats 4000000 in
set_option maxRecDepth 100000 in
theorem c_LO_chk (l : Launch) (i : Nat) (n : Nat) (hin : i < n) (hn : n < 2 ^ 31) : Met l y_LO_checkIndex w_LO_checkIndex ({ frames := 1, cells := 0, slots := 0, locals := 22 } : Room) (gP0 [.int (nI i), .int (nI n)]) (vp_Si (fun r => r = nI i)) 0 0 (fun _ => False) := by
  refine Met.ofW (cc := b_LO_checkIndex) (maxL := 2) (ret := (some .int)) (by decide) rfl ?_
  intro p e s m args below meth c s₁ B hml hv
  obtain rfl := hv
  have hx := B.exec
  have hb := B.bytes
  have hr := B.returns
  have hts := atoms_spec (ws := w_LO_checkIndex) B.pre
  have hown : s.vm.findClass R_LO = some m.cls := findClass_of_methodNamed B.named
  have hlocks := B.notSynchronized
  have hl := lv_entry ([.int (nI i), .int (nI n)]) (n := 2) (Nat.le_of_ble_eq_true rfl)
  rw [lg_entry_eq]
  generalize (lg_sl ([.int (nI i), .int (nI n)]) ++ List.replicate (2 - (lg_sl ([.int (nI i), .int (nI n)])).length) Slot.unset).toArray = ls at hl ⊢
  have hl : lv_has ls 2 [(0, .int (nI i)), (1, .int (nI n))] := hl
  refine lv_iload_n hx hb d_LO_checkIndex_0 rfl (lv_at hl 0 rfl) ?_
  refine lv_iload_n hx hb d_LO_checkIndex_1 rfl (lv_at hl 1 rfl) ?_
  refine lv_null hx hb d_LO_checkIndex_2 ?_
  refine r_calli (W.runS (As := [.int (nI i), .int (nI n), .null]) (rest := []) ⟨hx, hb, hml, hown, hts⟩ (c_LP_chk l i n (hin) (hn)) (va_cwS 3 hts g_LO_chk rfl rfl rfl (by decide +kernel) ⟨Nat.le_of_ble_eq_true rfl, Nat.le_of_ble_eq_true rfl⟩) p0_preS rfl rfl hl.1 rfl (lv_room (Nat.le_of_ble_eq_true rfl)) d_LO_checkIndex_3 ⟨Nat.le_of_ble_eq_true rfl, Nat.le_of_ble_eq_true rfl⟩) ?_
  exact W.iret (v := nI i) hx hb hr (fun t ht hW => ⟨_, rfl, rfl, ht⟩) t_nil d_LO_checkIndex_6

abbrev b_L_elementData : ByteArray := prog_18_method_18_code
def y_L_elementData : MethodName := ⟨"java/util/ArrayList", "elementData", "(I)Ljava/lang/Object;"⟩
theorem d_L_elementData_0 : decode b_L_elementData 0 = .ok (.aload_n 0, 1) := by decide +kernel
theorem d_L_elementData_1 : decode b_L_elementData 1 = .ok (.getfield 9, 3) := by decide +kernel
theorem d_L_elementData_4 : decode b_L_elementData 4 = .ok (.iload_n 1, 1) := by decide +kernel
theorem d_L_elementData_5 : decode b_L_elementData 5 = .ok (.aaload, 1) := by decide +kernel
theorem d_L_elementData_6 : decode b_L_elementData 6 = .ok (.areturn, 1) := by decide +kernel
def w_L_elementData : List Cond := .code y_L_elementData b_L_elementData 2 (some (.object "java/lang/Object")) :: ([.fieldLink "java/util/ArrayList" 9 "java/util/ArrayList" "elementData" "[Ljava/lang/Object;", .sameField "java/util/ArrayList" "java/util/AbstractList" "modCount" "I"] ++ u_ws R_L F_L 3)
set_option maxHeartbeats 4000000 in
set_option maxRecDepth 100000 in
theorem c_L_el (l : Launch) (D : va_G) (kC : Nat → ClassId) (h : Nat) (md : Int32) (x : Nat) (n : Nat) (rf : Nat → Option Nat) (i : Nat) (hi : i < 10) : Met l y_L_elementData w_L_elementData ({ frames := 0, cells := 0, slots := 0, locals := 0 } : Room) (gPr cls D (tyL kC) [.ref h, .int (nI i)] (fl [(wLo h md x n), (wLa kC x rf)])) (va_Sq (fun r => r = rf i)) 0 0 (fun _ => False) := by
  refine Met.ofW (cc := b_L_elementData) (maxL := 2) (ret := (some (.object "java/lang/Object"))) (by decide) rfl ?_
  intro p e s m args below meth c s₁ B hml hv
  obtain ⟨rfl, hP, hK⟩ := hv
  have hx := B.exec
  have hb := B.bytes
  have hr := B.returns
  have hts := atoms_spec (ws := w_L_elementData) B.pre
  have hown : s.vm.findClass R_L = some m.cls := findClass_of_methodNamed B.named
  have hlocks := B.notSynchronized
  have hl := lv_entry ([.ref h, .int (nI i)]) (n := 2) (Nat.le_of_ble_eq_true rfl)
  rw [lg_entry_eq]
  generalize (lg_sl ([.ref h, .int (nI i)]) ++ List.replicate (2 - (lg_sl ([.ref h, .int (nI i)])).length) Slot.unset).toArray = ls at hl ⊢
  have hl : lv_has ls 2 [(0, .ref h), (1, .int (nI i))] := hl
  refine lv_aload_n hx hb d_L_elementData_0 rfl (lv_at hl 0 rfl) ?_
  refine fv_get (ci := 8) (v := .ref x) (C := R_L) (T := F_L) (N := 3) hx hb hts (by decide +kernel) hown hK hP 0 0 rfl rfl rfl 1 (by decide) (hts (.fieldLink R_L 9 "java/util/ArrayList" "elementData" "[Ljava/lang/Object;") (by decide +kernel)) (fun _ h9 => h9) rfl d_L_elementData_1 ?_
  refine lv_iload_n hx hb d_L_elementData_4 rfl (lv_at hl 1 rfl) ?_
  refine fa_aldq hx hb hK hP 1 0 3 rfl rfl rfl (by omega) (by decide) d_L_elementData_5 ?_
  exact W.aret (v := va_rf (rf i)) hx hb hr (Or.inl ⟨_, rfl⟩) (va_rf_or _) (fun t ht hW => ⟨_, rfl, rfl, ht⟩) t_nil d_L_elementData_6

abbrev b_L_get : ByteArray := prog_18_method_20_code
def y_L_get : MethodName := ⟨"java/util/ArrayList", "get", "(I)Ljava/lang/Object;"⟩
theorem d_L_get_0 : decode b_L_get 0 = .ok (.iload_n 1, 1) := by decide +kernel
theorem d_L_get_1 : decode b_L_get 1 = .ok (.aload_n 0, 1) := by decide +kernel
theorem d_L_get_2 : decode b_L_get 2 = .ok (.getfield 48, 3) := by decide +kernel
theorem d_L_get_5 : decode b_L_get 5 = .ok (.invokestatic 118, 3) := by decide +kernel
theorem d_L_get_8 : decode b_L_get 8 = .ok (.pop, 1) := by decide +kernel
theorem d_L_get_9 : decode b_L_get 9 = .ok (.aload_n 0, 1) := by decide +kernel
theorem d_L_get_10 : decode b_L_get 10 = .ok (.iload_n 1, 1) := by decide +kernel
theorem d_L_get_11 : decode b_L_get 11 = .ok (.invokevirtual 123, 3) := by decide +kernel
theorem d_L_get_14 : decode b_L_get 14 = .ok (.areturn, 1) := by decide +kernel
def w_L_get : List Cond := .code y_L_get b_L_get 2 (some (.object "java/lang/Object")) :: ([.fieldLink "java/util/ArrayList" 48 "java/util/ArrayList" "size" "I", .sameField "java/util/ArrayList" "java/util/AbstractList" "modCount" "I", .methodLink "java/util/ArrayList" 118 ⟨"java/util/Objects", "checkIndex", "(II)I"⟩, .static ⟨"java/util/Objects", "checkIndex", "(II)I"⟩, .initialized "java/util/Objects", .code ⟨"java/util/Objects", "checkIndex", "(II)I"⟩ prog_22_method_17_code 2 (some .int), .methodLink "java/util/Objects" 105 ⟨"jdk/internal/util/Preconditions", "checkIndex", "(IILjava/util/function/BiFunction;)I"⟩, .static ⟨"jdk/internal/util/Preconditions", "checkIndex", "(IILjava/util/function/BiFunction;)I"⟩, .initialized "jdk/internal/util/Preconditions", .code ⟨"jdk/internal/util/Preconditions", "checkIndex", "(IILjava/util/function/BiFunction;)I"⟩ prog_26_method_11_code 3 (some .int), .methodLink "java/util/ArrayList" 123 ⟨"java/util/ArrayList", "elementData", "(I)Ljava/lang/Object;"⟩, .instanceMethod ⟨"java/util/ArrayList", "elementData", "(I)Ljava/lang/Object;"⟩, .selects "java/util/ArrayList" ⟨"java/util/ArrayList", "elementData", "(I)Ljava/lang/Object;"⟩ ⟨"java/util/ArrayList", "elementData", "(I)Ljava/lang/Object;"⟩, .initialized "java/util/ArrayList", .code ⟨"java/util/ArrayList", "elementData", "(I)Ljava/lang/Object;"⟩ prog_18_method_18_code 2 (some (.object "java/lang/Object")), .fieldLink "java/util/ArrayList" 9 "java/util/ArrayList" "elementData" "[Ljava/lang/Object;"] ++ u_ws R_L F_L 3)
set_option maxRecDepth 20000 in
theorem g_L_get_chk : GoodIn w_L_get (va_wsS R_L 118 y_LO_checkIndex w_LO_checkIndex) := goodIn_p _ [6, 10] rfl (by decide +kernel)
set_option maxRecDepth 20000 in
theorem g_L_get_el : GoodIn w_L_get (wsV R_L 123 R_L y_L_elementData w_L_elementData) := goodIn_p _ [15] rfl (by decide +kernel)
set_option maxHeartbeats 4000000 in
set_option maxRecDepth 100000 in
theorem c_L_get (l : Launch) (D : va_G) (kC : Nat → ClassId) (h : Nat) (md : Int32) (x : Nat) (n : Nat) (rf : Nat → Option Nat) (i : Nat) (hi : i < n) (hn : n ≤ 10) : Met l y_L_get w_L_get ({ frames := 2, cells := 0, slots := 0, locals := 43 } : Room) (gPr cls D (tyL kC) [.ref h, .int (nI i)] (fl [(wLo h md x n), (wLa kC x rf)])) (va_Sq (fun r => r = rf i)) 0 0 (fun _ => False) := by
  refine Met.ofW (cc := b_L_get) (maxL := 2) (ret := (some (.object "java/lang/Object"))) (by decide) rfl ?_
  intro p e s m args below meth c s₁ B hml hv
  obtain ⟨rfl, hP, hK⟩ := hv
  have hx := B.exec
  have hb := B.bytes
  have hr := B.returns
  have hts := atoms_spec (ws := w_L_get) B.pre
  have hown : s.vm.findClass R_L = some m.cls := findClass_of_methodNamed B.named
  have hlocks := B.notSynchronized
  have hl := lv_entry ([.ref h, .int (nI i)]) (n := 2) (Nat.le_of_ble_eq_true rfl)
  rw [lg_entry_eq]
  generalize (lg_sl ([.ref h, .int (nI i)]) ++ List.replicate (2 - (lg_sl ([.ref h, .int (nI i)])).length) Slot.unset).toArray = ls at hl ⊢
  have hl : lv_has ls 2 [(0, .ref h), (1, .int (nI i))] := hl
  refine lv_iload_n hx hb d_L_get_0 rfl (lv_at hl 1 rfl) ?_
  refine lv_aload_n hx hb d_L_get_1 rfl (lv_at hl 0 rfl) ?_
  refine fv_get (ci := 8) (v := .int (nI n)) (C := R_L) (T := F_L) (N := 3) hx hb hts (by decide +kernel) hown hK hP 0 0 rfl rfl rfl 2 (by decide) (hts (.fieldLink R_L 48 "java/util/ArrayList" "size" "I") (by decide +kernel)) (fun _ h9 => h9) rfl d_L_get_2 ?_
  refine r_calli (W.runS (As := [.int (nI i), .int (nI n)]) (rest := []) ⟨hx, hb, hml, hown, hts⟩ (c_LO_chk l i n (hi) (by omega)) (va_cwS 2 hts g_L_get_chk rfl rfl rfl (by decide +kernel) ⟨Nat.le_of_ble_eq_true rfl, Nat.le_of_ble_eq_true rfl⟩) p0_preS rfl rfl hl.1 rfl (lv_room (Nat.le_of_ble_eq_true rfl)) d_L_get_5 ⟨Nat.le_of_ble_eq_true rfl, Nat.le_of_ble_eq_true rfl⟩) ?_
  refine lv_pop hx hb d_L_get_8 rfl ?_
  refine lv_aload_n hx hb d_L_get_9 rfl (lv_at hl 0 rfl) ?_
  refine lv_iload_n hx hb d_L_get_10 rfl (lv_at hl 1 rfl) ?_
  refine r_callq (W.runV (As := [.int (nI i)]) (rest := []) ⟨hx, hb, hml, hown, hts⟩ (c_L_el l D kC h md x n rf i (by omega)) (cwV 1 hts g_L_get_el rfl rfl rfl (by decide +kernel) ⟨Nat.le_of_ble_eq_true rfl, Nat.le_of_ble_eq_true rfl⟩) (r_preV (f_recv (ci := 8) (q0 := 0) hK hP 0 rfl rfl rfl) hK hP) rfl rfl hl.1 rfl (lv_room (Nat.le_of_ble_eq_true rfl)) d_L_get_11 ⟨Nat.le_of_ble_eq_true rfl, Nat.le_of_ble_eq_true rfl⟩) ?_
  exact W.aret (v := va_rf (rf i)) hx hb hr (Or.inl ⟨_, rfl⟩) (va_rf_or _) (fun t ht hW => ⟨_, rfl, rfl, ht⟩) t_nil d_L_get_14

abbrev b_Q_i : ByteArray := prog_5_method_1_code
def y_Q_i : MethodName := ⟨"PartShelves$Part", "<init>", "(IIJ)V"⟩
theorem d_Q_i_0 : decode b_Q_i 0 = .ok (.aload_n 0, 1) := by decide +kernel
theorem d_Q_i_1 : decode b_Q_i 1 = .ok (.invokespecial 3, 3) := by decide +kernel
theorem d_Q_i_4 : decode b_Q_i 4 = .ok (.aload_n 0, 1) := by decide +kernel
theorem d_Q_i_5 : decode b_Q_i 5 = .ok (.iconst 0, 1) := by decide +kernel
theorem d_Q_i_6 : decode b_Q_i 6 = .ok (.putfield 9, 3) := by decide +kernel
theorem d_Q_i_9 : decode b_Q_i 9 = .ok (.aload_n 0, 1) := by decide +kernel
theorem d_Q_i_10 : decode b_Q_i 10 = .ok (.iconst 0, 1) := by decide +kernel
theorem d_Q_i_11 : decode b_Q_i 11 = .ok (.putfield 15, 3) := by decide +kernel
theorem d_Q_i_14 : decode b_Q_i 14 = .ok (.aload_n 0, 1) := by decide +kernel
theorem d_Q_i_15 : decode b_Q_i 15 = .ok (.iconst (-1), 1) := by decide +kernel
theorem d_Q_i_16 : decode b_Q_i 16 = .ok (.putfield 18, 3) := by decide +kernel
theorem d_Q_i_19 : decode b_Q_i 19 = .ok (.aload_n 0, 1) := by decide +kernel
theorem d_Q_i_20 : decode b_Q_i 20 = .ok (.iconst (-1), 1) := by decide +kernel
theorem d_Q_i_21 : decode b_Q_i 21 = .ok (.putfield 21, 3) := by decide +kernel
theorem d_Q_i_24 : decode b_Q_i 24 = .ok (.aload_n 0, 1) := by decide +kernel
theorem d_Q_i_25 : decode b_Q_i 25 = .ok (.iload_n 1, 1) := by decide +kernel
theorem d_Q_i_26 : decode b_Q_i 26 = .ok (.putfield 24, 3) := by decide +kernel
theorem d_Q_i_29 : decode b_Q_i 29 = .ok (.aload_n 0, 1) := by decide +kernel
theorem d_Q_i_30 : decode b_Q_i 30 = .ok (.iload_n 2, 1) := by decide +kernel
theorem d_Q_i_31 : decode b_Q_i 31 = .ok (.putfield 27, 3) := by decide +kernel
theorem d_Q_i_34 : decode b_Q_i 34 = .ok (.aload_n 0, 1) := by decide +kernel
theorem d_Q_i_35 : decode b_Q_i 35 = .ok (.lload_n 3, 1) := by decide +kernel
theorem d_Q_i_36 : decode b_Q_i 36 = .ok (.putfield 30, 3) := by decide +kernel
theorem d_Q_i_39 : decode b_Q_i 39 = .ok (.return_, 1) := by decide +kernel
def w_Q_i : List Cond := .code y_Q_i b_Q_i 5 none :: ([.methodLink "PartShelves$Part" 3 ⟨"java/lang/Object", "<init>", "()V"⟩, .instanceMethod ⟨"java/lang/Object", "<init>", "()V"⟩, .code ⟨"java/lang/Object", "<init>", "()V"⟩ object_method_1_code 1 none, .fieldLink "PartShelves$Part" 9 "PartShelves$Part" "state" "I", .fieldLink "PartShelves$Part" 15 "PartShelves$Part" "day" "I", .fieldLink "PartShelves$Part" 18 "PartShelves$Part" "holder" "I", .fieldLink "PartShelves$Part" 21 "PartShelves$Part" "person" "I", .fieldLink "PartShelves$Part" 24 "PartShelves$Part" "kind" "I", .fieldLink "PartShelves$Part" 27 "PartShelves$Part" "age" "I", .fieldLink "PartShelves$Part" 30 "PartShelves$Part" "serial" "J"] ++ u_ws R_Q F_Q 7)
set_option maxHeartbeats 4000000 in
set_option maxRecDepth 100000 in
theorem c_Q_i (l : Launch) (D : va_G) (kC : Nat → ClassId) (h0 : Nat) (ki : Nat) (ag : Nat) (se : Nat) (sz : Nat) : Met l y_Q_i w_Q_i ({ frames := 1, cells := 0, slots := 0, locals := 12 } : Room) (gPre cls D (tyL kC) [.ref h0, .int (nI ki), .int (nI ag), .long (lN se)] (fl [[(h0, .inr (4, [.int (nI 0), .int (nI 0), .long (lN 0), .int (nI 0), .int (nI 0), .int (nI 0), .int (nI 0)]))]]) sz) (gQv cls D (tyL kC) (fl [[(h0, .inr (4, [.int (nI 0), .int (nI 0), .long (lN 0), .int (nI 0), .int (nI 0), .int (nI 0), .int (nI 0)]))]]) sz (fl [(wQ h0 ki ag se 0 0 (-1) (-1))])) 0 0 (va_A (fl [[(h0, .inr (4, [.int (nI 0), .int (nI 0), .long (lN 0), .int (nI 0), .int (nI 0), .int (nI 0), .int (nI 0)]))]]) sz) := by
  refine Met.ofW (cc := b_Q_i) (maxL := 5) (ret := none) (by decide) rfl ?_
  intro p e s m args below meth c s₁ B hml hv
  obtain ⟨rfl, hsz, hP, hK, hD0⟩ := hv
  have hx := B.exec
  have hb := B.bytes
  have hr := B.returns
  have hts := atoms_spec (ws := w_Q_i) B.pre
  have hown : s.vm.findClass R_Q = some m.cls := findClass_of_methodNamed B.named
  have hlocks := B.notSynchronized
  have hin : meth.name = "<init>" := (name_of_methodNamed B.named B.method).1
  subst hsz
  obtain ⟨A, hAe⟩ : ∃ A : Nat → Prop, A = va_A (fl [[(h0, .inr (4, [.int (nI 0), .int (nI 0), .long (lN 0), .int (nI 0), .int (nI 0), .int (nI 0), .int (nI 0)]))]]) s.heap.size := ⟨_, rfl⟩
  have hD : va_D A (fl [[(h0, .inr (4, [.int (nI 0), .int (nI 0), .long (lN 0), .int (nI 0), .int (nI 0), .int (nI 0), .int (nI 0)]))]]) := by rw [hAe]; exact hD0.self
  have hA : ∀ q : Nat, s.heap.size ≤ q → A q := fun q h => by rw [hAe]; exact Or.inr h
  have hS : va_S A s.heap s.heap [] := va_S.rf
  have hl := lv_entry ([.ref h0, .int (nI ki), .int (nI ag), .long (lN se)]) (n := 5) (Nat.le_of_ble_eq_true rfl)
  rw [lg_entry_eq]
  generalize (lg_sl ([.ref h0, .int (nI ki), .int (nI ag), .long (lN se)]) ++ List.replicate (5 - (lg_sl ([.ref h0, .int (nI ki), .int (nI ag), .long (lN se)])).length) Slot.unset).toArray = ls at hl ⊢
  have hl : lv_has ls 5 [(0, .ref h0), (1, .int (nI ki)), (2, .int (nI ag)), (3, .long (lN se))] := hl
  refine lv_aload_n hx hb d_Q_i_0 rfl (lv_at hl 0 rfl) ?_
  refine W.objInit hx hb hown (hts (.methodLink R_Q 3 Lib.objectInit) (by decide +kernel)) (hts (.instanceMethod Lib.objectInit) (by decide +kernel)) (hts _ (List.mem_of_getElem? (i := 3) rfl)) rfl (by rw [hml]; exact hl.1) rfl d_Q_i_1 (Nat.le_of_ble_eq_true rfl) (Nat.le_of_ble_eq_true rfl) ?_
  refine W.eq (g2 := F0 m 4 ls []) rfl ?_
  refine lv_aload_n hx hb d_Q_i_4 rfl (lv_at hl 0 rfl) ?_
  refine lv_iconst (v := nI 0) hx hb d_Q_i_5 (by decide) ?_
  refine fv_put (ci := 4) (v := .int (nI 0)) (ty := (.int)) (C := R_Q) (T := F_Q) (N := 7) hx hb hts (by decide +kernel) t_Q t_Q_ok n_Q hown hK hP hD hS 0 0 rfl rfl rfl 3 (by decide) (hts (.fieldLink R_Q 9 "PartShelves$Part" "state" "I") (by decide +kernel)) (fun _ h9 => h9) rfl (by decide +kernel) (rfl) (rfl) (Nat.le_of_ble_eq_true rfl) d_Q_i_6 (fun H locs hP hD hS => ?_)
  have hP : va_P D cls (fl [[(h0, .inr (4, [.int (nI 0), .int (nI 0), .long (lN 0), .int (nI 0), .int (nI 0), .int (nI 0), .int (nI 0)]))]]) H := hP
  have hD : va_D A (fl [[(h0, .inr (4, [.int (nI 0), .int (nI 0), .long (lN 0), .int (nI 0), .int (nI 0), .int (nI 0), .int (nI 0)]))]]) := hD
  refine lv_aload_n hx hb d_Q_i_9 rfl (lv_at hl 0 rfl) ?_
  refine lv_iconst (v := nI 0) hx hb d_Q_i_10 (by decide) ?_
  refine fv_put (ci := 4) (v := .int (nI 0)) (ty := (.int)) (C := R_Q) (T := F_Q) (N := 7) hx hb hts (by decide +kernel) t_Q t_Q_ok n_Q hown hK hP hD hS 0 0 rfl rfl rfl 4 (by decide) (hts (.fieldLink R_Q 15 "PartShelves$Part" "day" "I") (by decide +kernel)) (fun _ h9 => h9) rfl (by decide +kernel) (rfl) (rfl) (Nat.le_of_ble_eq_true rfl) d_Q_i_11 (fun H locs hP hD hS => ?_)
  have hP : va_P D cls (fl [[(h0, .inr (4, [.int (nI 0), .int (nI 0), .long (lN 0), .int (nI 0), .int (nI 0), .int (nI 0), .int (nI 0)]))]]) H := hP
  have hD : va_D A (fl [[(h0, .inr (4, [.int (nI 0), .int (nI 0), .long (lN 0), .int (nI 0), .int (nI 0), .int (nI 0), .int (nI 0)]))]]) := hD
  refine lv_aload_n hx hb d_Q_i_14 rfl (lv_at hl 0 rfl) ?_
  refine lv_iconst (v := (-1)) hx hb d_Q_i_15 (by decide) ?_
  refine fv_put (ci := 4) (v := .int (-1)) (ty := (.int)) (C := R_Q) (T := F_Q) (N := 7) hx hb hts (by decide +kernel) t_Q t_Q_ok n_Q hown hK hP hD hS 0 0 rfl rfl rfl 5 (by decide) (hts (.fieldLink R_Q 18 "PartShelves$Part" "holder" "I") (by decide +kernel)) (fun _ h9 => h9) rfl (by decide +kernel) (rfl) (rfl) (Nat.le_of_ble_eq_true rfl) d_Q_i_16 (fun H locs hP hD hS => ?_)
  have hP : va_P D cls (fl [[(h0, .inr (4, [.int (nI 0), .int (nI 0), .long (lN 0), .int (nI 0), .int (nI 0), .int (-1), .int (nI 0)]))]]) H := hP
  have hD : va_D A (fl [[(h0, .inr (4, [.int (nI 0), .int (nI 0), .long (lN 0), .int (nI 0), .int (nI 0), .int (-1), .int (nI 0)]))]]) := hD
  refine lv_aload_n hx hb d_Q_i_19 rfl (lv_at hl 0 rfl) ?_
  refine lv_iconst (v := (-1)) hx hb d_Q_i_20 (by decide) ?_
  refine fv_put (ci := 4) (v := .int (-1)) (ty := (.int)) (C := R_Q) (T := F_Q) (N := 7) hx hb hts (by decide +kernel) t_Q t_Q_ok n_Q hown hK hP hD hS 0 0 rfl rfl rfl 6 (by decide) (hts (.fieldLink R_Q 21 "PartShelves$Part" "person" "I") (by decide +kernel)) (fun _ h9 => h9) rfl (by decide +kernel) (rfl) (rfl) (Nat.le_of_ble_eq_true rfl) d_Q_i_21 (fun H locs hP hD hS => ?_)
  have hP : va_P D cls (fl [[(h0, .inr (4, [.int (nI 0), .int (nI 0), .long (lN 0), .int (nI 0), .int (nI 0), .int (-1), .int (-1)]))]]) H := hP
  have hD : va_D A (fl [[(h0, .inr (4, [.int (nI 0), .int (nI 0), .long (lN 0), .int (nI 0), .int (nI 0), .int (-1), .int (-1)]))]]) := hD
  refine lv_aload_n hx hb d_Q_i_24 rfl (lv_at hl 0 rfl) ?_
  refine lv_iload_n hx hb d_Q_i_25 rfl (lv_at hl 1 rfl) ?_
  refine fv_putF (ci := 4) (v := .int (nI ki)) (ty := (.int)) (C := R_Q) (T := F_Q) (N := 7) hx hb hts (by decide +kernel) t_Q t_Q_ok n_Q hown hK hP hD hS 0 0 rfl rfl rfl 0 (by decide) (hts (.fieldLink R_Q 24 "PartShelves$Part" "kind" "I") (by decide +kernel)) (fun _ h9 => h9) rfl hin rfl (by decide +kernel) (rfl) (rfl) (Nat.le_of_ble_eq_true rfl) d_Q_i_26 (fun H locs hP hD hS => ?_)
  have hP : va_P D cls (fl [[(h0, .inr (4, [.int (nI ki), .int (nI 0), .long (lN 0), .int (nI 0), .int (nI 0), .int (-1), .int (-1)]))]]) H := hP
  have hD : va_D A (fl [[(h0, .inr (4, [.int (nI ki), .int (nI 0), .long (lN 0), .int (nI 0), .int (nI 0), .int (-1), .int (-1)]))]]) := hD
  refine lv_aload_n hx hb d_Q_i_29 rfl (lv_at hl 0 rfl) ?_
  refine lv_iload_n hx hb d_Q_i_30 rfl (lv_at hl 2 rfl) ?_
  refine fv_putF (ci := 4) (v := .int (nI ag)) (ty := (.int)) (C := R_Q) (T := F_Q) (N := 7) hx hb hts (by decide +kernel) t_Q t_Q_ok n_Q hown hK hP hD hS 0 0 rfl rfl rfl 1 (by decide) (hts (.fieldLink R_Q 27 "PartShelves$Part" "age" "I") (by decide +kernel)) (fun _ h9 => h9) rfl hin rfl (by decide +kernel) (rfl) (rfl) (Nat.le_of_ble_eq_true rfl) d_Q_i_31 (fun H locs hP hD hS => ?_)
  have hP : va_P D cls (fl [[(h0, .inr (4, [.int (nI ki), .int (nI ag), .long (lN 0), .int (nI 0), .int (nI 0), .int (-1), .int (-1)]))]]) H := hP
  have hD : va_D A (fl [[(h0, .inr (4, [.int (nI ki), .int (nI ag), .long (lN 0), .int (nI 0), .int (nI 0), .int (-1), .int (-1)]))]]) := hD
  refine lv_aload_n hx hb d_Q_i_34 rfl (lv_at hl 0 rfl) ?_
  refine lv_lload_n hx hb d_Q_i_35 rfl (lv_at hl 3 rfl) ?_
  refine fv_putF (ci := 4) (v := .long (lN se)) (ty := (.long)) (C := R_Q) (T := F_Q) (N := 7) hx hb hts (by decide +kernel) t_Q t_Q_ok n_Q hown hK hP hD hS 0 0 rfl rfl rfl 2 (by decide) (hts (.fieldLink R_Q 30 "PartShelves$Part" "serial" "J") (by decide +kernel)) (fun _ h9 => h9) rfl hin rfl (by decide +kernel) (rfl) (rfl) (Nat.le_of_ble_eq_true rfl) d_Q_i_36 (fun H locs hP hD hS => ?_)
  have hP : va_P D cls (fl [[(h0, .inr (4, [.int (nI ki), .int (nI ag), .long (lN se), .int (nI 0), .int (nI 0), .int (-1), .int (-1)]))]]) H := hP
  have hD : va_D A (fl [[(h0, .inr (4, [.int (nI ki), .int (nI ag), .long (lN se), .int (nI 0), .int (nI 0), .int (-1), .int (-1)]))]]) := hD
  exact W.vret hx hb hr (fun t ht hW => by subst hAe; exact ⟨⟨(), rfl, trivial, by rw [ht]; exact hP, va_K.moved hW.alike hK, hD⟩, hS.F ht⟩) (by subst hAe; exact hS.2.2) d_Q_i_39

abbrev b_A_i : ByteArray := prog_2_method_1_code
def y_A_i : MethodName := ⟨"PartShelves$Ask", "<init>", "(IIJJ)V"⟩
theorem d_A_i_0 : decode b_A_i 0 = .ok (.aload_n 0, 1) := by decide +kernel
theorem d_A_i_1 : decode b_A_i 1 = .ok (.invokespecial 1, 3) := by decide +kernel
theorem d_A_i_4 : decode b_A_i 4 = .ok (.aload_n 0, 1) := by decide +kernel
theorem d_A_i_5 : decode b_A_i 5 = .ok (.iconst 1, 1) := by decide +kernel
theorem d_A_i_6 : decode b_A_i 6 = .ok (.putfield 7, 3) := by decide +kernel
theorem d_A_i_9 : decode b_A_i 9 = .ok (.aload_n 0, 1) := by decide +kernel
theorem d_A_i_10 : decode b_A_i 10 = .ok (.iload_n 1, 1) := by decide +kernel
theorem d_A_i_11 : decode b_A_i 11 = .ok (.putfield 13, 3) := by decide +kernel
theorem d_A_i_14 : decode b_A_i 14 = .ok (.aload_n 0, 1) := by decide +kernel
theorem d_A_i_15 : decode b_A_i 15 = .ok (.iload_n 2, 1) := by decide +kernel
theorem d_A_i_16 : decode b_A_i 16 = .ok (.putfield 17, 3) := by decide +kernel
theorem d_A_i_19 : decode b_A_i 19 = .ok (.aload_n 0, 1) := by decide +kernel
theorem d_A_i_20 : decode b_A_i 20 = .ok (.lload_n 3, 1) := by decide +kernel
theorem d_A_i_21 : decode b_A_i 21 = .ok (.putfield 20, 3) := by decide +kernel
theorem d_A_i_24 : decode b_A_i 24 = .ok (.aload_n 0, 1) := by decide +kernel
theorem d_A_i_25 : decode b_A_i 25 = .ok (.lload 5, 2) := by decide +kernel
theorem d_A_i_27 : decode b_A_i 27 = .ok (.putfield 24, 3) := by decide +kernel
theorem d_A_i_30 : decode b_A_i 30 = .ok (.return_, 1) := by decide +kernel
def w_A_i : List Cond := .code y_A_i b_A_i 7 none :: ([.methodLink "PartShelves$Ask" 1 ⟨"java/lang/Object", "<init>", "()V"⟩, .instanceMethod ⟨"java/lang/Object", "<init>", "()V"⟩, .code ⟨"java/lang/Object", "<init>", "()V"⟩ object_method_1_code 1 none, .fieldLink "PartShelves$Ask" 7 "PartShelves$Ask" "open" "Z", .fieldLink "PartShelves$Ask" 13 "PartShelves$Ask" "number" "I", .fieldLink "PartShelves$Ask" 17 "PartShelves$Ask" "product" "I", .fieldLink "PartShelves$Ask" 20 "PartShelves$Ask" "cents" "J", .fieldLink "PartShelves$Ask" 24 "PartShelves$Ask" "minute" "J"] ++ u_ws R_A F_A 5)
set_option maxHeartbeats 4000000 in
set_option maxRecDepth 100000 in
theorem c_A_i (l : Launch) (D : va_G) (kC : Nat → ClassId) (h0 : Nat) (nu : Nat) (pr : Nat) (ce : Nat) (mi : Nat) (sz : Nat) : Met l y_A_i w_A_i ({ frames := 1, cells := 0, slots := 0, locals := 12 } : Room) (gPre cls D (tyL kC) [.ref h0, .int (nI nu), .int (nI pr), .long (lN ce), .long (lN mi)] (fl [[(h0, .inr (1, [.int (nI 0), .int (nI 0), .long (lN 0), .long (lN 0), .int (nI 0)]))]]) sz) (gQv cls D (tyL kC) (fl [[(h0, .inr (1, [.int (nI 0), .int (nI 0), .long (lN 0), .long (lN 0), .int (nI 0)]))]]) sz (fl [(wA h0 nu pr ce mi (nI 1))])) 0 0 (va_A (fl [[(h0, .inr (1, [.int (nI 0), .int (nI 0), .long (lN 0), .long (lN 0), .int (nI 0)]))]]) sz) := by
  refine Met.ofW (cc := b_A_i) (maxL := 7) (ret := none) (by decide) rfl ?_
  intro p e s m args below meth c s₁ B hml hv
  obtain ⟨rfl, hsz, hP, hK, hD0⟩ := hv
  have hx := B.exec
  have hb := B.bytes
  have hr := B.returns
  have hts := atoms_spec (ws := w_A_i) B.pre
  have hown : s.vm.findClass R_A = some m.cls := findClass_of_methodNamed B.named
  have hlocks := B.notSynchronized
  have hin : meth.name = "<init>" := (name_of_methodNamed B.named B.method).1
  subst hsz
  obtain ⟨A, hAe⟩ : ∃ A : Nat → Prop, A = va_A (fl [[(h0, .inr (1, [.int (nI 0), .int (nI 0), .long (lN 0), .long (lN 0), .int (nI 0)]))]]) s.heap.size := ⟨_, rfl⟩
  have hD : va_D A (fl [[(h0, .inr (1, [.int (nI 0), .int (nI 0), .long (lN 0), .long (lN 0), .int (nI 0)]))]]) := by rw [hAe]; exact hD0.self
  have hA : ∀ q : Nat, s.heap.size ≤ q → A q := fun q h => by rw [hAe]; exact Or.inr h
  have hS : va_S A s.heap s.heap [] := va_S.rf
  have hl := lv_entry ([.ref h0, .int (nI nu), .int (nI pr), .long (lN ce), .long (lN mi)]) (n := 7) (Nat.le_of_ble_eq_true rfl)
  rw [lg_entry_eq]
  generalize (lg_sl ([.ref h0, .int (nI nu), .int (nI pr), .long (lN ce), .long (lN mi)]) ++ List.replicate (7 - (lg_sl ([.ref h0, .int (nI nu), .int (nI pr), .long (lN ce), .long (lN mi)])).length) Slot.unset).toArray = ls at hl ⊢
  have hl : lv_has ls 7 [(0, .ref h0), (1, .int (nI nu)), (2, .int (nI pr)), (3, .long (lN ce)), (5, .long (lN mi))] := hl
  refine lv_aload_n hx hb d_A_i_0 rfl (lv_at hl 0 rfl) ?_
  refine W.objInit hx hb hown (hts (.methodLink R_A 1 Lib.objectInit) (by decide +kernel)) (hts (.instanceMethod Lib.objectInit) (by decide +kernel)) (hts _ (List.mem_of_getElem? (i := 3) rfl)) rfl (by rw [hml]; exact hl.1) rfl d_A_i_1 (Nat.le_of_ble_eq_true rfl) (Nat.le_of_ble_eq_true rfl) ?_
  refine W.eq (g2 := F0 m 4 ls []) rfl ?_
  refine lv_aload_n hx hb d_A_i_4 rfl (lv_at hl 0 rfl) ?_
  refine lv_iconst (v := nI 1) hx hb d_A_i_5 (by decide) ?_
  refine fv_put (ci := 1) (v := .int (nI 1)) (ty := (.boolean)) (C := R_A) (T := F_A) (N := 5) hx hb hts (by decide +kernel) t_A t_A_ok n_A hown hK hP hD hS 0 0 rfl rfl rfl 4 (by decide) (hts (.fieldLink R_A 7 "PartShelves$Ask" "open" "Z") (by decide +kernel)) (fun _ h9 => h9) rfl (by decide +kernel) (rfl) (rfl) (Nat.le_of_ble_eq_true rfl) d_A_i_6 (fun H locs hP hD hS => ?_)
  have hP : va_P D cls (fl [[(h0, .inr (1, [.int (nI 0), .int (nI 0), .long (lN 0), .long (lN 0), .int (nI 1)]))]]) H := hP
  have hD : va_D A (fl [[(h0, .inr (1, [.int (nI 0), .int (nI 0), .long (lN 0), .long (lN 0), .int (nI 1)]))]]) := hD
  refine lv_aload_n hx hb d_A_i_9 rfl (lv_at hl 0 rfl) ?_
  refine lv_iload_n hx hb d_A_i_10 rfl (lv_at hl 1 rfl) ?_
  refine fv_putF (ci := 1) (v := .int (nI nu)) (ty := (.int)) (C := R_A) (T := F_A) (N := 5) hx hb hts (by decide +kernel) t_A t_A_ok n_A hown hK hP hD hS 0 0 rfl rfl rfl 0 (by decide) (hts (.fieldLink R_A 13 "PartShelves$Ask" "number" "I") (by decide +kernel)) (fun _ h9 => h9) rfl hin rfl (by decide +kernel) (rfl) (rfl) (Nat.le_of_ble_eq_true rfl) d_A_i_11 (fun H locs hP hD hS => ?_)
  have hP : va_P D cls (fl [[(h0, .inr (1, [.int (nI nu), .int (nI 0), .long (lN 0), .long (lN 0), .int (nI 1)]))]]) H := hP
  have hD : va_D A (fl [[(h0, .inr (1, [.int (nI nu), .int (nI 0), .long (lN 0), .long (lN 0), .int (nI 1)]))]]) := hD
  refine lv_aload_n hx hb d_A_i_14 rfl (lv_at hl 0 rfl) ?_
  refine lv_iload_n hx hb d_A_i_15 rfl (lv_at hl 2 rfl) ?_
  refine fv_putF (ci := 1) (v := .int (nI pr)) (ty := (.int)) (C := R_A) (T := F_A) (N := 5) hx hb hts (by decide +kernel) t_A t_A_ok n_A hown hK hP hD hS 0 0 rfl rfl rfl 1 (by decide) (hts (.fieldLink R_A 17 "PartShelves$Ask" "product" "I") (by decide +kernel)) (fun _ h9 => h9) rfl hin rfl (by decide +kernel) (rfl) (rfl) (Nat.le_of_ble_eq_true rfl) d_A_i_16 (fun H locs hP hD hS => ?_)
  have hP : va_P D cls (fl [[(h0, .inr (1, [.int (nI nu), .int (nI pr), .long (lN 0), .long (lN 0), .int (nI 1)]))]]) H := hP
  have hD : va_D A (fl [[(h0, .inr (1, [.int (nI nu), .int (nI pr), .long (lN 0), .long (lN 0), .int (nI 1)]))]]) := hD
  refine lv_aload_n hx hb d_A_i_19 rfl (lv_at hl 0 rfl) ?_
  refine lv_lload_n hx hb d_A_i_20 rfl (lv_at hl 3 rfl) ?_
  refine fv_putF (ci := 1) (v := .long (lN ce)) (ty := (.long)) (C := R_A) (T := F_A) (N := 5) hx hb hts (by decide +kernel) t_A t_A_ok n_A hown hK hP hD hS 0 0 rfl rfl rfl 2 (by decide) (hts (.fieldLink R_A 20 "PartShelves$Ask" "cents" "J") (by decide +kernel)) (fun _ h9 => h9) rfl hin rfl (by decide +kernel) (rfl) (rfl) (Nat.le_of_ble_eq_true rfl) d_A_i_21 (fun H locs hP hD hS => ?_)
  have hP : va_P D cls (fl [[(h0, .inr (1, [.int (nI nu), .int (nI pr), .long (lN ce), .long (lN 0), .int (nI 1)]))]]) H := hP
  have hD : va_D A (fl [[(h0, .inr (1, [.int (nI nu), .int (nI pr), .long (lN ce), .long (lN 0), .int (nI 1)]))]]) := hD
  refine lv_aload_n hx hb d_A_i_24 rfl (lv_at hl 0 rfl) ?_
  refine lv_lload hx hb d_A_i_25 (lv_at hl 4 rfl) ?_
  refine fv_putF (ci := 1) (v := .long (lN mi)) (ty := (.long)) (C := R_A) (T := F_A) (N := 5) hx hb hts (by decide +kernel) t_A t_A_ok n_A hown hK hP hD hS 0 0 rfl rfl rfl 3 (by decide) (hts (.fieldLink R_A 24 "PartShelves$Ask" "minute" "J") (by decide +kernel)) (fun _ h9 => h9) rfl hin rfl (by decide +kernel) (rfl) (rfl) (Nat.le_of_ble_eq_true rfl) d_A_i_27 (fun H locs hP hD hS => ?_)
  have hP : va_P D cls (fl [[(h0, .inr (1, [.int (nI nu), .int (nI pr), .long (lN ce), .long (lN mi), .int (nI 1)]))]]) H := hP
  have hD : va_D A (fl [[(h0, .inr (1, [.int (nI nu), .int (nI pr), .long (lN ce), .long (lN mi), .int (nI 1)]))]]) := hD
  exact W.vret hx hb hr (fun t ht hW => by subst hAe; exact ⟨⟨(), rfl, trivial, by rw [ht]; exact hP, va_K.moved hW.alike hK, hD⟩, hS.F ht⟩) (by subst hAe; exact hS.2.2) d_A_i_30

/-- a job -/
def wJ (kC : Nat → ClassId) (h x : Nat) (ne : Nat → Nat) : va_W := [(h, .inr (2, [.ref x])), (x, .inl (kC 0, 6, .inl (fun j => nI (ne j))))]
abbrev b_J_i : ByteArray := prog_3_method_1_code
def y_J_i : MethodName := ⟨"PartShelves$Job", "<init>", "()V"⟩
theorem d_J_i_0 : decode b_J_i 0 = .ok (.aload_n 0, 1) := by decide +kernel
theorem d_J_i_1 : decode b_J_i 1 = .ok (.invokespecial 3, 3) := by decide +kernel
theorem d_J_i_4 : decode b_J_i 4 = .ok (.aload_n 0, 1) := by decide +kernel
theorem d_J_i_5 : decode b_J_i 5 = .ok (.bipush 6, 2) := by decide +kernel
theorem d_J_i_7 : decode b_J_i 7 = .ok (.newarray .int, 2) := by decide +kernel
theorem d_J_i_9 : decode b_J_i 9 = .ok (.putfield 9, 3) := by decide +kernel
theorem d_J_i_12 : decode b_J_i 12 = .ok (.return_, 1) := by decide +kernel
def w_J_i : List Cond := .code y_J_i b_J_i 1 none :: ([.methodLink "PartShelves$Job" 3 ⟨"java/lang/Object", "<init>", "()V"⟩, .instanceMethod ⟨"java/lang/Object", "<init>", "()V"⟩, .code ⟨"java/lang/Object", "<init>", "()V"⟩ object_method_1_code 1 none, .arrayClass .int, .fieldLink "PartShelves$Job" 9 "PartShelves$Job" "needs" "[I"] ++ u_ws R_J F_J 1)
set_option maxHeartbeats 4000000 in
set_option maxRecDepth 100000 in
theorem c_J_i (l : Launch) (D : va_G) (kC : Nat → ClassId) (h0 : Nat) (sz : Nat) : Met l y_J_i w_J_i ({ frames := 1, cells := 1, slots := 6, locals := 12 } : Room) (gPre cls D (tyL kC) [.ref h0] (fl [[(h0, .inr (2, [.null]))]]) sz) (va_Qv (fun (u : Nat) => True) (fun u t => gB cls D (tyL kC) (va_A (fl [[(h0, .inr (2, [.null]))]]) sz) (fl [(wJ kC h0 u (fun _ => 0))]) t) (va_A (fl [[(h0, .inr (2, [.null]))]]) sz)) 1 6 (va_A (fl [[(h0, .inr (2, [.null]))]]) sz) := by
  refine Met.ofW (cc := b_J_i) (maxL := 1) (ret := none) (by decide) rfl ?_
  intro p e s m args below meth c s₁ B hml hv
  obtain ⟨rfl, hsz, hP, hK, hD0⟩ := hv
  have hx := B.exec
  have hb := B.bytes
  have hr := B.returns
  have hts := atoms_spec (ws := w_J_i) B.pre
  have hown : s.vm.findClass R_J = some m.cls := findClass_of_methodNamed B.named
  have hlocks := B.notSynchronized
  have hin : meth.name = "<init>" := (name_of_methodNamed B.named B.method).1
  subst hsz
  obtain ⟨A, hAe⟩ : ∃ A : Nat → Prop, A = va_A (fl [[(h0, .inr (2, [.null]))]]) s.heap.size := ⟨_, rfl⟩
  have hD : va_D A (fl [[(h0, .inr (2, [.null]))]]) := by rw [hAe]; exact hD0.self
  have hA : ∀ q : Nat, s.heap.size ≤ q → A q := fun q h => by rw [hAe]; exact Or.inr h
  have hS : va_S A s.heap s.heap [] := va_S.rf
  have hl := lv_entry ([.ref h0]) (n := 1) (Nat.le_of_ble_eq_true rfl)
  rw [lg_entry_eq]
  generalize (lg_sl ([.ref h0]) ++ List.replicate (1 - (lg_sl ([.ref h0])).length) Slot.unset).toArray = ls at hl ⊢
  have hl : lv_has ls 1 [(0, .ref h0)] := hl
  refine lv_aload_n hx hb d_J_i_0 rfl (lv_at hl 0 rfl) ?_
  refine W.objInit hx hb hown (hts (.methodLink R_J 3 Lib.objectInit) (by decide +kernel)) (hts (.instanceMethod Lib.objectInit) (by decide +kernel)) (hts _ (List.mem_of_getElem? (i := 3) rfl)) rfl (by rw [hml]; exact hl.1) rfl d_J_i_1 (Nat.le_of_ble_eq_true rfl) (Nat.le_of_ble_eq_true rfl) ?_
  refine W.eq (g2 := F0 m 4 ls []) rfl ?_
  refine lv_aload_n hx hb d_J_i_4 rfl (lv_at hl 0 rfl) ?_
  refine lv_bipush (v := nI 6) hx hb d_J_i_5 (by decide +kernel) ?_
  refine fv_newa (atype := .int) (ty := .int) (kB := kC 0) (N := 6) (a0 := (6, .inl (fun _ => nI 0))) hx hb (hts (.arrayClass .int) (by decide +kernel)) rfl hK hP hD hS hA 0 rfl (fun _ h => by cases h) (z_int 6) (by decide +kernel) (by decide +kernel) (Nat.le_of_ble_eq_true rfl) (Nat.le_of_ble_eq_true rfl) d_J_i_7 (fun qa1 H hP hD hS => ?_)
  refine W.cs (cells' := 1) (slots' := 6) rfl rfl ?_
  have hP : va_P D cls (fl [[(h0, .inr (2, [.null]))], [(qa1, .inl (kC 0, 6, .inl (fun _ => nI 0)))]]) H := hP
  have hD : va_D A (fl [[(h0, .inr (2, [.null]))], [(qa1, .inl (kC 0, 6, .inl (fun _ => nI 0)))]]) := hD
  refine fv_putF (ci := 2) (v := .ref qa1) (ty := (.array .int)) (C := R_J) (T := F_J) (N := 1) hx hb hts (by decide +kernel) t_J t_J_ok n_J hown hK hP hD hS 0 0 rfl rfl rfl 0 (by decide) (hts (.fieldLink R_J 9 "PartShelves$Job" "needs" "[I") (by decide +kernel)) (fun _ h9 => h9) rfl hin rfl (by decide +kernel) (rfl) (rfl) (Nat.le_of_ble_eq_true rfl) d_J_i_9 (fun H locs hP hD hS => ?_)
  have hP : va_P D cls (fl [[(h0, .inr (2, [.ref qa1]))], [(qa1, .inl (kC 0, 6, .inl (fun _ => nI 0)))]]) H := hP
  have hD : va_D A (fl [[(h0, .inr (2, [.ref qa1]))], [(qa1, .inl (kC 0, 6, .inl (fun _ => nI 0)))]]) := hD
  exact W.vret hx hb hr (fun t ht hW => by subst hAe; exact ⟨⟨qa1, rfl, trivial, by rw [ht]; exact hP, va_K.moved hW.alike hK, hD⟩, hS.F ht⟩) (by subst hAe; exact hS.2.2) d_J_i_12

