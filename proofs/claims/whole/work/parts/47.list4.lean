/-- a list with its places -/
def wL1 (kC : Nat → ClassId) (h : Nat) (md : Int32) (x n : Nat) (rf : Nat → Option Nat) : va_W := [(h, .inr (8, [.int md, .ref x, .int (nI n)])), (x, .inl (kC 3, 10, .inr (.inr (.inr (.inr rf)))))]
set_option maxHeartbeats 4000000 in
set_option maxRecDepth 100000 in
theorem c_L_size1 (l : Launch) (D : va_G) (kC : Nat → ClassId) (h : Nat) (md : Int32) (x : Nat) (n : Nat) (rf : Nat → Option Nat) : Met l y_L_size w_L_size ({ frames := 0, cells := 0, slots := 0, locals := 0 } : Room) (gPr cls D (tyL kC) [.ref h] (fl [(wL1 kC h md x n rf)])) (vp_Si (fun r => r = nI n)) 0 0 (fun _ => False) := by
  refine Met.ofW (cc := b_L_size) (maxL := 1) (ret := (some .int)) (by decide) rfl ?_
  intro p e s m args below meth c s₁ B hml hv
  obtain ⟨rfl, hP, hK⟩ := hv
  have hx := B.exec
  have hb := B.bytes
  have hr := B.returns
  have hts := atoms_spec (ws := w_L_size) B.pre
  have hown : s.vm.findClass R_L = some m.cls := findClass_of_methodNamed B.named
  have hlocks := B.notSynchronized
  have hl := lv_entry ([.ref h]) (n := 1) (Nat.le_of_ble_eq_true rfl)
  rw [lg_entry_eq]
  generalize (lg_sl ([.ref h]) ++ List.replicate (1 - (lg_sl ([.ref h])).length) Slot.unset).toArray = ls at hl ⊢
  have hl : lv_has ls 1 [(0, .ref h)] := hl
  refine lv_aload_n hx hb d_L_size_0 rfl (lv_at hl 0 rfl) ?_
  refine fv_get (ci := 8) (v := .int (nI n)) (C := R_L) (T := F_L) (N := 3) hx hb hts (by decide +kernel) hown hK hP 0 0 rfl rfl rfl 2 (by decide) (hts (.fieldLink R_L 48 "java/util/ArrayList" "size" "I") (by decide +kernel)) (fun _ h9 => h9) rfl d_L_size_1 ?_
  exact W.iret (v := nI n) hx hb hr (fun t ht hW => ⟨_, rfl, rfl, ht⟩) t_nil d_L_size_4

set_option maxHeartbeats 4000000 in
set_option maxRecDepth 100000 in
theorem c_L_el1 (l : Launch) (D : va_G) (kC : Nat → ClassId) (h : Nat) (md : Int32) (x : Nat) (n : Nat) (rf : Nat → Option Nat) (i : Nat) (hi : i < 10) : Met l y_L_elementData w_L_elementData ({ frames := 0, cells := 0, slots := 0, locals := 0 } : Room) (gPr cls D (tyL kC) [.ref h, .int (nI i)] (fl [(wL1 kC h md x n rf)])) (va_Sq (fun r => r = rf i)) 0 0 (fun _ => False) := by
  refine Met.ofW (cc := b_L_elementData) (maxL := 2) (ret := (some (.object "java/lang/Object"))) (by decide) rfl ?_
  intro p e s m args below meth c s₁ B hml hv
  obtain ⟨rfl, hP, hK⟩ := hv
  have hx := B.exec
  have hb := B.bytes
  have hr := B.returns
  have hts := atoms_spec (ws := w_L_elementData) B.pre
  have hown : s.vm.findClass R_L = some m.cls := findClass_of_methodNamed B.named
  have hlocks := B.notSynchronized
  have hl := lv_entry ([.ref h, .int (nI i)]) (n := 2) (Nat.le_of_ble_eq_true rfl)
  rw [lg_entry_eq]
  generalize (lg_sl ([.ref h, .int (nI i)]) ++ List.replicate (2 - (lg_sl ([.ref h, .int (nI i)])).length) Slot.unset).toArray = ls at hl ⊢
  have hl : lv_has ls 2 [(0, .ref h), (1, .int (nI i))] := hl
  refine lv_aload_n hx hb d_L_elementData_0 rfl (lv_at hl 0 rfl) ?_
  refine fv_get (ci := 8) (v := .ref x) (C := R_L) (T := F_L) (N := 3) hx hb hts (by decide +kernel) hown hK hP 0 0 rfl rfl rfl 1 (by decide) (hts (.fieldLink R_L 9 "java/util/ArrayList" "elementData" "[Ljava/lang/Object;") (by decide +kernel)) (fun _ h9 => h9) rfl d_L_elementData_1 ?_
  refine lv_iload_n hx hb d_L_elementData_4 rfl (lv_at hl 1 rfl) ?_
  refine fa_aldq hx hb hK hP 0 1 3 rfl rfl rfl (by omega) (by decide) d_L_elementData_5 ?_
  exact W.aret (v := va_rf (rf i)) hx hb hr (Or.inl ⟨_, rfl⟩) (va_rf_or _) (fun t ht hW => ⟨_, rfl, rfl, ht⟩) t_nil d_L_elementData_6

set_option maxHeartbeats 4000000 in
set_option maxRecDepth 100000 in
theorem c_L_get1 (l : Launch) (D : va_G) (kC : Nat → ClassId) (h : Nat) (md : Int32) (x : Nat) (n : Nat) (rf : Nat → Option Nat) (i : Nat) (hi : i < n) (hn : n ≤ 10) : Met l y_L_get w_L_get ({ frames := 2, cells := 0, slots := 0, locals := 43 } : Room) (gPr cls D (tyL kC) [.ref h, .int (nI i)] (fl [(wL1 kC h md x n rf)])) (va_Sq (fun r => r = rf i)) 0 0 (fun _ => False) := by
  refine Met.ofW (cc := b_L_get) (maxL := 2) (ret := (some (.object "java/lang/Object"))) (by decide) rfl ?_
  intro p e s m args below meth c s₁ B hml hv
  obtain ⟨rfl, hP, hK⟩ := hv
  have hx := B.exec
  have hb := B.bytes
  have hr := B.returns
  have hts := atoms_spec (ws := w_L_get) B.pre
  have hown : s.vm.findClass R_L = some m.cls := findClass_of_methodNamed B.named
  have hlocks := B.notSynchronized
  have hl := lv_entry ([.ref h, .int (nI i)]) (n := 2) (Nat.le_of_ble_eq_true rfl)
  rw [lg_entry_eq]
  generalize (lg_sl ([.ref h, .int (nI i)]) ++ List.replicate (2 - (lg_sl ([.ref h, .int (nI i)])).length) Slot.unset).toArray = ls at hl ⊢
  have hl : lv_has ls 2 [(0, .ref h), (1, .int (nI i))] := hl
  refine lv_iload_n hx hb d_L_get_0 rfl (lv_at hl 1 rfl) ?_
  refine lv_aload_n hx hb d_L_get_1 rfl (lv_at hl 0 rfl) ?_
  refine fv_get (ci := 8) (v := .int (nI n)) (C := R_L) (T := F_L) (N := 3) hx hb hts (by decide +kernel) hown hK hP 0 0 rfl rfl rfl 2 (by decide) (hts (.fieldLink R_L 48 "java/util/ArrayList" "size" "I") (by decide +kernel)) (fun _ h9 => h9) rfl d_L_get_2 ?_
  refine r_calli (W.runS (As := [.int (nI i), .int (nI n)]) (rest := []) ⟨hx, hb, hml, hown, hts⟩ (c_LO_chk l i n (hi) (by omega)) (va_cwS 2 hts g_L_get_chk rfl rfl rfl (by decide +kernel) ⟨Nat.le_of_ble_eq_true rfl, Nat.le_of_ble_eq_true rfl⟩) p0_preS rfl rfl hl.1 rfl (lv_room (Nat.le_of_ble_eq_true rfl)) d_L_get_5 ⟨Nat.le_of_ble_eq_true rfl, Nat.le_of_ble_eq_true rfl⟩) ?_
  refine lv_pop hx hb d_L_get_8 rfl ?_
  refine lv_aload_n hx hb d_L_get_9 rfl (lv_at hl 0 rfl) ?_
  refine lv_iload_n hx hb d_L_get_10 rfl (lv_at hl 1 rfl) ?_
  refine r_callq (W.runV (As := [.int (nI i)]) (rest := []) ⟨hx, hb, hml, hown, hts⟩ (c_L_el1 l D kC h md x n rf i (by omega)) (cwV 1 hts g_L_get_el rfl rfl rfl (by decide +kernel) ⟨Nat.le_of_ble_eq_true rfl, Nat.le_of_ble_eq_true rfl⟩) (r_preV (f_recv (ci := 8) (q0 := 0) hK hP 0 rfl rfl rfl) hK hP) rfl rfl hl.1 rfl (lv_room (Nat.le_of_ble_eq_true rfl)) d_L_get_11 ⟨Nat.le_of_ble_eq_true rfl, Nat.le_of_ble_eq_true rfl⟩) ?_
  exact W.aret (v := va_rf (rf i)) hx hb hr (Or.inl ⟨_, rfl⟩) (va_rf_or _) (fun t ht hW => ⟨_, rfl, rfl, ht⟩) t_nil d_L_get_14

abbrev b_LC_i : ByteArray := prog_16_method_1_code
def y_LC_i : MethodName := ⟨"java/util/AbstractCollection", "<init>", "()V"⟩
theorem d_LC_i_0 : decode b_LC_i 0 = .ok (.aload_n 0, 1) := by decide +kernel
theorem d_LC_i_1 : decode b_LC_i 1 = .ok (.invokespecial 1, 3) := by decide +kernel
theorem d_LC_i_4 : decode b_LC_i 4 = .ok (.return_, 1) := by decide +kernel
def w_LC_i : List Cond := .code y_LC_i b_LC_i 1 none :: ([.methodLink "java/util/AbstractCollection" 1 ⟨"java/lang/Object", "<init>", "()V"⟩, .instanceMethod ⟨"java/lang/Object", "<init>", "()V"⟩, .code ⟨"java/lang/Object", "<init>", "()V"⟩ object_method_1_code 1 none])
set_option maxHeartbeats 4000000 in
set_option maxRecDepth 100000 in
theorem c_LC_i (l : Launch) (D : va_G) (kC : Nat → ClassId) (h0 : Nat) (f0 : Value) (f1 : Value) (f2 : Value) : Met l y_LC_i w_LC_i ({ frames := 1, cells := 0, slots := 0, locals := 12 } : Room) (gPr cls D (tyL kC) [.ref h0] (fl [[(h0, .inr (8, [f0, f1, f2]))]])) (va_Sv (fun _ => True)) 0 0 (fun _ => False) := by
  refine Met.ofW (cc := b_LC_i) (maxL := 1) (ret := none) (by decide) rfl ?_
  intro p e s m args below meth c s₁ B hml hv
  obtain ⟨rfl, hP, hK⟩ := hv
  have hx := B.exec
  have hb := B.bytes
  have hr := B.returns
  have hts := atoms_spec (ws := w_LC_i) B.pre
  have hown : s.vm.findClass R_LC = some m.cls := findClass_of_methodNamed B.named
  have hlocks := B.notSynchronized
  have hin : meth.name = "<init>" := (name_of_methodNamed B.named B.method).1
  have hl := lv_entry ([.ref h0]) (n := 1) (Nat.le_of_ble_eq_true rfl)
  rw [lg_entry_eq]
  generalize (lg_sl ([.ref h0]) ++ List.replicate (1 - (lg_sl ([.ref h0])).length) Slot.unset).toArray = ls at hl ⊢
  have hl : lv_has ls 1 [(0, .ref h0)] := hl
  refine lv_aload_n hx hb d_LC_i_0 rfl (lv_at hl 0 rfl) ?_
  refine W.objInit hx hb hown (hts (.methodLink R_LC 1 Lib.objectInit) (by decide +kernel)) (hts (.instanceMethod Lib.objectInit) (by decide +kernel)) (hts _ (List.mem_of_getElem? (i := 3) rfl)) rfl (by rw [hml]; exact hl.1) rfl d_LC_i_1 (Nat.le_of_ble_eq_true rfl) (Nat.le_of_ble_eq_true rfl) ?_
  refine W.eq (g2 := F0 m 4 ls []) rfl ?_
  exact W.vret hx hb hr (fun t ht hW => ⟨rfl, trivial, ht⟩) t_nil d_LC_i_4

abbrev b_LA_i : ByteArray := prog_17_method_1_code
def y_LA_i : MethodName := ⟨"java/util/AbstractList", "<init>", "()V"⟩
theorem d_LA_i_0 : decode b_LA_i 0 = .ok (.aload_n 0, 1) := by decide +kernel
theorem d_LA_i_1 : decode b_LA_i 1 = .ok (.invokespecial 1, 3) := by decide +kernel
theorem d_LA_i_4 : decode b_LA_i 4 = .ok (.aload_n 0, 1) := by decide +kernel
theorem d_LA_i_5 : decode b_LA_i 5 = .ok (.iconst 0, 1) := by decide +kernel
theorem d_LA_i_6 : decode b_LA_i 6 = .ok (.putfield 7, 3) := by decide +kernel
theorem d_LA_i_9 : decode b_LA_i 9 = .ok (.return_, 1) := by decide +kernel
def w_LA_i : List Cond := .code y_LA_i b_LA_i 1 none :: ([.methodLink "java/util/AbstractList" 1 ⟨"java/util/AbstractCollection", "<init>", "()V"⟩, .instanceMethod ⟨"java/util/AbstractCollection", "<init>", "()V"⟩, .initialized "java/util/AbstractCollection", .code ⟨"java/util/AbstractCollection", "<init>", "()V"⟩ prog_16_method_1_code 1 none, .methodLink "java/util/AbstractCollection" 1 ⟨"java/lang/Object", "<init>", "()V"⟩, .instanceMethod ⟨"java/lang/Object", "<init>", "()V"⟩, .code ⟨"java/lang/Object", "<init>", "()V"⟩ object_method_1_code 1 none, .fieldLink "java/util/AbstractList" 7 "java/util/AbstractList" "modCount" "I", .sameField "java/util/ArrayList" "java/util/AbstractList" "modCount" "I"] ++ u_ws R_L F_L 3)
set_option maxRecDepth 20000 in
theorem g_LA_LC : GoodIn w_LA_i (w_LC_i) := goodIn_p _ [4, 7] rfl (by decide +kernel)
set_option maxHeartbeats 4000000 in
set_option maxRecDepth 100000 in
theorem c_LA_i (l : Launch) (D : va_G) (kC : Nat → ClassId) (h0 : Nat) (f0 : Value) (f1 : Value) (f2 : Value) (sz : Nat) : Met l y_LA_i w_LA_i ({ frames := 2, cells := 0, slots := 0, locals := 32 } : Room) (gPre cls D (tyL kC) [.ref h0] (fl [[(h0, .inr (8, [f0, f1, f2]))]]) sz) (gQv cls D (tyL kC) (fl [[(h0, .inr (8, [f0, f1, f2]))]]) sz (fl [[(h0, .inr (8, [.int (nI 0), f1, f2]))]])) 0 0 (va_A (fl [[(h0, .inr (8, [f0, f1, f2]))]]) sz) := by
  refine Met.ofW (cc := b_LA_i) (maxL := 1) (ret := none) (by decide) rfl ?_
  intro p e s m args below meth c s₁ B hml hv
  obtain ⟨rfl, hsz, hP, hK, hD0⟩ := hv
  have hx := B.exec
  have hb := B.bytes
  have hr := B.returns
  have hts := atoms_spec (ws := w_LA_i) B.pre
  have hown : s.vm.findClass R_LA = some m.cls := findClass_of_methodNamed B.named
  have hlocks := B.notSynchronized
  have hin : meth.name = "<init>" := (name_of_methodNamed B.named B.method).1
  subst hsz
  obtain ⟨A, hAe⟩ : ∃ A : Nat → Prop, A = va_A (fl [[(h0, .inr (8, [f0, f1, f2]))]]) s.heap.size := ⟨_, rfl⟩
  have hD : va_D A (fl [[(h0, .inr (8, [f0, f1, f2]))]]) := by rw [hAe]; exact hD0.self
  have hA : ∀ q : Nat, s.heap.size ≤ q → A q := fun q h => by rw [hAe]; exact Or.inr h
  have hS : va_S A s.heap s.heap [] := va_S.rf
  have hl := lv_entry ([.ref h0]) (n := 1) (Nat.le_of_ble_eq_true rfl)
  rw [lg_entry_eq]
  generalize (lg_sl ([.ref h0]) ++ List.replicate (1 - (lg_sl ([.ref h0])).length) Slot.unset).toArray = ls at hl ⊢
  have hl : lv_has ls 1 [(0, .ref h0)] := hl
  refine lv_aload_n hx hb d_LA_i_0 rfl (lv_at hl 0 rfl) ?_
  refine r_callv (W.runI (As := []) (rest := []) ⟨hx, hb, hml, hown, hts⟩ (c_LC_i l D kC h0 f0 f1 f2) (cwI 0 hts g_LA_LC rfl rfl rfl (hts (.initialized R_LC) (by decide +kernel)) (hts (.methodLink R_LA 1 y_LC_i) (by decide +kernel)) (hts (.instanceMethod y_LC_i) (by decide +kernel)) rfl (by decide +kernel) ⟨Nat.le_of_ble_eq_true rfl, Nat.le_of_ble_eq_true rfl⟩) (r_preS hK hP) rfl rfl hl.1 rfl (lv_room (Nat.le_of_ble_eq_true rfl)) d_LA_i_1 ⟨Nat.le_of_ble_eq_true rfl, Nat.le_of_ble_eq_true rfl⟩) ?_
  refine lv_aload_n hx hb d_LA_i_4 rfl (lv_at hl 0 rfl) ?_
  refine lv_iconst (v := nI 0) hx hb d_LA_i_5 (by decide) ?_
  refine fv_put (ci := 8) (v := .int (nI 0)) (ty := (.int)) (C := R_L) (T := F_L) (N := 3) hx hb hts (by decide +kernel) t_L t_L_ok n_L hown hK hP hD hS 0 0 rfl rfl rfl 0 (by decide) (hts (.fieldLink R_LA 7 "java/util/AbstractList" "modCount" "I") (by decide +kernel)) (fun _ h9 => h9) rfl (by decide +kernel) (rfl) (rfl) (Nat.le_of_ble_eq_true rfl) d_LA_i_6 (fun H locs hP hD hS => ?_)
  have hP : va_P D cls (fl [[(h0, .inr (8, [.int (nI 0), f1, f2]))]]) H := hP
  have hD : va_D A (fl [[(h0, .inr (8, [.int (nI 0), f1, f2]))]]) := hD
  exact W.vret hx hb hr (fun t ht hW => by subst hAe; exact ⟨⟨(), rfl, trivial, by rw [ht]; exact hP, va_K.moved hW.alike hK, hD⟩, hS.F ht⟩) (by subst hAe; exact hS.2.2) d_LA_i_9

abbrev b_L_i : ByteArray := prog_18_method_2_code
def y_L_i : MethodName := ⟨"java/util/ArrayList", "<init>", "()V"⟩
theorem d_L_i_0 : decode b_L_i 0 = .ok (.aload_n 0, 1) := by decide +kernel
theorem d_L_i_1 : decode b_L_i 1 = .ok (.invokespecial 1, 3) := by decide +kernel
theorem d_L_i_4 : decode b_L_i 4 = .ok (.aload_n 0, 1) := by decide +kernel
theorem d_L_i_5 : decode b_L_i 5 = .ok (.getstatic 39, 3) := by decide +kernel
theorem d_L_i_8 : decode b_L_i 8 = .ok (.putfield 9, 3) := by decide +kernel
theorem d_L_i_11 : decode b_L_i 11 = .ok (.return_, 1) := by decide +kernel
def w_L_i : List Cond := .code y_L_i b_L_i 1 none :: ([.methodLink "java/util/ArrayList" 1 ⟨"java/util/AbstractList", "<init>", "()V"⟩, .instanceMethod ⟨"java/util/AbstractList", "<init>", "()V"⟩, .initialized "java/util/AbstractList", .code ⟨"java/util/AbstractList", "<init>", "()V"⟩ prog_17_method_1_code 1 none, .methodLink "java/util/AbstractList" 1 ⟨"java/util/AbstractCollection", "<init>", "()V"⟩, .instanceMethod ⟨"java/util/AbstractCollection", "<init>", "()V"⟩, .initialized "java/util/AbstractCollection", .code ⟨"java/util/AbstractCollection", "<init>", "()V"⟩ prog_16_method_1_code 1 none, .methodLink "java/util/AbstractCollection" 1 ⟨"java/lang/Object", "<init>", "()V"⟩, .instanceMethod ⟨"java/lang/Object", "<init>", "()V"⟩, .code ⟨"java/lang/Object", "<init>", "()V"⟩ object_method_1_code 1 none, .fieldLink "java/util/AbstractList" 7 "java/util/AbstractList" "modCount" "I", .sameField "java/util/ArrayList" "java/util/AbstractList" "modCount" "I", .fieldLink "java/util/ArrayList" 39 "java/util/ArrayList" "DEFAULTCAPACITY_EMPTY_ELEMENTDATA" "[Ljava/lang/Object;", .fieldLink "java/util/ArrayList" 9 "java/util/ArrayList" "elementData" "[Ljava/lang/Object;"] ++ u_ws R_L F_L 3)
set_option maxRecDepth 20000 in
theorem g_L_LA : GoodIn w_L_i (w_LA_i) := goodIn_p _ [4, 8, 11] rfl (by decide +kernel)
set_option maxHeartbeats 4000000 in
set_option maxRecDepth 100000 in
theorem c_L_i (l : Launch) (D : va_G) (kC : Nat → ClassId) (h0 : Nat) (eD : Nat) (sz : Nat) : Met l y_L_i w_L_i ({ frames := 3, cells := 0, slots := 0, locals := 52 } : Room) (gPz cls D (tyL kC) [.ref h0] (fl [[(h0, .inr (8, [.int (nI 0), .null, .int (nI 0)]))]]) sz eD) (gQv cls D (tyL kC) (fl [[(h0, .inr (8, [.int (nI 0), .null, .int (nI 0)]))]]) sz (fl [(wLo h0 (nI 0) eD 0)])) 0 0 (va_A (fl [[(h0, .inr (8, [.int (nI 0), .null, .int (nI 0)]))]]) sz) := by
  refine Met.ofW (cc := b_L_i) (maxL := 1) (ret := none) (by decide) rfl ?_
  intro p e s m args below meth c s₁ B hml hv
  obtain ⟨rfl, hsz, hP, hK, hD0, hz0⟩ := hv
  have hx := B.exec
  have hb := B.bytes
  have hr := B.returns
  have hts := atoms_spec (ws := w_L_i) B.pre
  have hown : s.vm.findClass R_L = some m.cls := findClass_of_methodNamed B.named
  have hlocks := B.notSynchronized
  have hin : meth.name = "<init>" := (name_of_methodNamed B.named B.method).1
  subst hsz
  obtain ⟨A, hAe⟩ : ∃ A : Nat → Prop, A = va_A (fl [[(h0, .inr (8, [.int (nI 0), .null, .int (nI 0)]))]]) s.heap.size := ⟨_, rfl⟩
  have hD : va_D A (fl [[(h0, .inr (8, [.int (nI 0), .null, .int (nI 0)]))]]) := by rw [hAe]; exact hD0.self
  have hA : ∀ q : Nat, s.heap.size ≤ q → A q := fun q h => by rw [hAe]; exact Or.inr h
  have hS : va_S A s.heap s.heap [] := va_S.rf
  have hz : lzE eD A s s.heap := by rw [hAe]; exact hz0
  have hl := lv_entry ([.ref h0]) (n := 1) (Nat.le_of_ble_eq_true rfl)
  rw [lg_entry_eq]
  generalize (lg_sl ([.ref h0]) ++ List.replicate (1 - (lg_sl ([.ref h0])).length) Slot.unset).toArray = ls at hl ⊢
  have hl : lv_has ls 1 [(0, .ref h0)] := hl
  refine lv_aload_n hx hb d_L_i_0 rfl (lv_at hl 0 rfl) ?_
  refine g_callvA (va_runI (As := []) (rest := []) ⟨hx, hb, hml, hown, hts⟩ (c_LA_i l D kC h0 (.int (nI 0)) .null (.int (nI 0)) (s.heap).size) (cwI 0 hts g_L_LA rfl rfl rfl (hts (.initialized R_LA) (by decide +kernel)) (hts (.methodLink R_L 1 y_LA_i) (by decide +kernel)) (hts (.instanceMethod y_LA_i) (by decide +kernel)) rfl (by decide +kernel) ⟨Nat.le_of_ble_eq_true rfl, Nat.le_of_ble_eq_true rfl⟩) (g_preS hK hP hD) rfl rfl hl.1 rfl (lv_room (Nat.le_of_ble_eq_true rfl)) d_L_i_1 ⟨Nat.le_of_ble_eq_true rfl, Nat.le_of_ble_eq_true rfl⟩) hS hA hD (fun H locs hP hD hS => ?_)
  refine W.cs (cells' := 0) (slots' := 0) rfl rfl ?_
  have hP : va_P D cls (fl [[(h0, .inr (8, [.int (nI 0), .null, (.int (nI 0))]))]]) H := hP
  have hD : va_D A (fl [[(h0, .inr (8, [.int (nI 0), .null, (.int (nI 0))]))]]) := hD
  refine lv_aload_n hx hb d_L_i_4 rfl (lv_at hl 0 rfl) ?_
  refine va_gets hx hb hz.1 hS hown (hts (.fieldLink R_L 39 "java/util/ArrayList" "DEFAULTCAPACITY_EMPTY_ELEMENTDATA" "[Ljava/lang/Object;") (by decide +kernel)) (fun _ h9 => h9) d_L_i_5 ?_
  refine fv_put (ci := 8) (v := .ref eD) (ty := (.array (.object "java/lang/Object"))) (C := R_L) (T := F_L) (N := 3) hx hb hts (by decide +kernel) t_L t_L_ok n_L hown hK hP hD hS 0 0 rfl rfl rfl 1 (by decide) (hts (.fieldLink R_L 9 "java/util/ArrayList" "elementData" "[Ljava/lang/Object;") (by decide +kernel)) (fun _ h9 => h9) rfl (by decide +kernel) (rfl) (rfl) (Nat.le_of_ble_eq_true rfl) d_L_i_8 (fun H locs hP hD hS => ?_)
  have hP : va_P D cls (fl [[(h0, .inr (8, [.int (nI 0), .ref eD, (.int (nI 0))]))]]) H := hP
  have hD : va_D A (fl [[(h0, .inr (8, [.int (nI 0), .ref eD, (.int (nI 0))]))]]) := hD
  exact W.vret hx hb hr (fun t ht hW => by subst hAe; exact ⟨⟨(), rfl, trivial, by rw [ht]; exact hP, va_K.moved hW.alike hK, hD⟩, hS.F ht⟩) (by subst hAe; exact hS.2.2) d_L_i_11

abbrev b_L_grow2 : ByteArray := prog_18_method_6_code
def y_L_grow2 : MethodName := ⟨"java/util/ArrayList", "grow", "(I)[Ljava/lang/Object;"⟩
theorem d_L_grow2_0 : decode b_L_grow2 0 = .ok (.aload_n 0, 1) := by decide +kernel
theorem d_L_grow2_1 : decode b_L_grow2 1 = .ok (.getfield 9, 3) := by decide +kernel
theorem d_L_grow2_4 : decode b_L_grow2 4 = .ok (.arraylength, 1) := by decide +kernel
theorem d_L_grow2_5 : decode b_L_grow2 5 = .ok (.istore_n 2, 1) := by decide +kernel
theorem d_L_grow2_6 : decode b_L_grow2 6 = .ok (.iload_n 2, 1) := by decide +kernel
theorem d_L_grow2_7 : decode b_L_grow2 7 = .ok (.ifCond .gt 13, 3) := by decide +kernel
theorem d_L_grow2_10 : decode b_L_grow2 10 = .ok (.aload_n 0, 1) := by decide +kernel
theorem d_L_grow2_11 : decode b_L_grow2 11 = .ok (.getfield 9, 3) := by decide +kernel
theorem d_L_grow2_14 : decode b_L_grow2 14 = .ok (.getstatic 39, 3) := by decide +kernel
theorem d_L_grow2_17 : decode b_L_grow2 17 = .ok (.if_acmp .eq 28, 3) := by decide +kernel
theorem d_L_grow2_20 : decode b_L_grow2 20 = .ok (.iload_n 2, 1) := by decide +kernel
theorem d_L_grow2_21 : decode b_L_grow2 21 = .ok (.iload_n 1, 1) := by decide +kernel
theorem d_L_grow2_22 : decode b_L_grow2 22 = .ok (.iload_n 2, 1) := by decide +kernel
theorem d_L_grow2_23 : decode b_L_grow2 23 = .ok (.isub, 1) := by decide +kernel
theorem d_L_grow2_24 : decode b_L_grow2 24 = .ok (.iload_n 2, 1) := by decide +kernel
theorem d_L_grow2_25 : decode b_L_grow2 25 = .ok (.iconst 1, 1) := by decide +kernel
theorem d_L_grow2_26 : decode b_L_grow2 26 = .ok (.ishr, 1) := by decide +kernel
theorem d_L_grow2_27 : decode b_L_grow2 27 = .ok (.invokestatic 73, 3) := by decide +kernel
theorem d_L_grow2_30 : decode b_L_grow2 30 = .ok (.istore_n 3, 1) := by decide +kernel
theorem d_L_grow2_31 : decode b_L_grow2 31 = .ok (.aload_n 0, 1) := by decide +kernel
theorem d_L_grow2_32 : decode b_L_grow2 32 = .ok (.aload_n 0, 1) := by decide +kernel
theorem d_L_grow2_33 : decode b_L_grow2 33 = .ok (.getfield 9, 3) := by decide +kernel
theorem d_L_grow2_36 : decode b_L_grow2 36 = .ok (.iload_n 3, 1) := by decide +kernel
theorem d_L_grow2_37 : decode b_L_grow2 37 = .ok (.invokestatic 66, 3) := by decide +kernel
theorem d_L_grow2_40 : decode b_L_grow2 40 = .ok (.dup_x1, 1) := by decide +kernel
theorem d_L_grow2_41 : decode b_L_grow2 41 = .ok (.putfield 9, 3) := by decide +kernel
theorem d_L_grow2_44 : decode b_L_grow2 44 = .ok (.areturn, 1) := by decide +kernel
theorem d_L_grow2_45 : decode b_L_grow2 45 = .ok (.aload_n 0, 1) := by decide +kernel
theorem d_L_grow2_46 : decode b_L_grow2 46 = .ok (.bipush 10, 2) := by decide +kernel
theorem d_L_grow2_48 : decode b_L_grow2 48 = .ok (.iload_n 1, 1) := by decide +kernel
theorem d_L_grow2_49 : decode b_L_grow2 49 = .ok (.invokestatic 79, 3) := by decide +kernel
theorem d_L_grow2_52 : decode b_L_grow2 52 = .ok (.anewarray 7, 3) := by decide +kernel
theorem d_L_grow2_55 : decode b_L_grow2 55 = .ok (.dup_x1, 1) := by decide +kernel
theorem d_L_grow2_56 : decode b_L_grow2 56 = .ok (.putfield 9, 3) := by decide +kernel
theorem d_L_grow2_59 : decode b_L_grow2 59 = .ok (.areturn, 1) := by decide +kernel
def w_L_grow2 : List Cond := .code y_L_grow2 b_L_grow2 4 (some (.array (.object "java/lang/Object"))) :: ([.fieldLink "java/util/ArrayList" 9 "java/util/ArrayList" "elementData" "[Ljava/lang/Object;", .sameField "java/util/ArrayList" "java/util/AbstractList" "modCount" "I", .fieldLink "java/util/ArrayList" 39 "java/util/ArrayList" "DEFAULTCAPACITY_EMPTY_ELEMENTDATA" "[Ljava/lang/Object;", .methodLink "java/util/ArrayList" 73 ⟨"jdk/internal/util/ArraysSupport", "newLength", "(III)I"⟩, .static ⟨"jdk/internal/util/ArraysSupport", "newLength", "(III)I"⟩, .initialized "jdk/internal/util/ArraysSupport", .methodLink "java/util/ArrayList" 66 ⟨"java/util/Arrays", "copyOf", "([Ljava/lang/Object;I)[Ljava/lang/Object;"⟩, .static ⟨"java/util/Arrays", "copyOf", "([Ljava/lang/Object;I)[Ljava/lang/Object;"⟩, .initialized "java/util/Arrays", .methodLink "java/util/ArrayList" 79 ⟨"java/lang/Math", "max", "(II)I"⟩, .static ⟨"java/lang/Math", "max", "(II)I"⟩, .initialized "java/lang/Math", .code ⟨"java/lang/Math", "max", "(II)I"⟩ prog_14_method_65_code 2 (some .int), .classLink "java/util/ArrayList" 7 "java/lang/Object"] ++ u_ws R_L F_L 3)
set_option maxHeartbeats 4000000 in
set_option maxRecDepth 100000 in
theorem c_L_grow2 (l : Launch) (D : va_G) (kC : Nat → ClassId) (h : Nat) (md : Int32) (eD : Nat) (sz : Nat) : Met l y_L_grow2 w_L_grow2 ({ frames := 1, cells := 1, slots := 10, locals := 14 } : Room) (gPz cls D (tyL kC) [.ref h, .int (nI 1)] (fl [(wLo h md eD 0)]) sz eD) (gQr cls D (tyL kC) (fl [(wLo h md eD 0)]) sz (fun ra => fl [(wL1 kC h md ra 0 (fun _ => none))])) 1 10 (va_A (fl [(wLo h md eD 0)]) sz) := by
  refine Met.ofW (cc := b_L_grow2) (maxL := 4) (ret := (some (.array (.object "java/lang/Object")))) (by decide) rfl ?_
  intro p e s m args below meth c s₁ B hml hv
  obtain ⟨rfl, hsz, hP, hK, hD0, hz0⟩ := hv
  have hx := B.exec
  have hb := B.bytes
  have hr := B.returns
  have hts := atoms_spec (ws := w_L_grow2) B.pre
  have hown : s.vm.findClass R_L = some m.cls := findClass_of_methodNamed B.named
  have hlocks := B.notSynchronized
  subst hsz
  obtain ⟨A, hAe⟩ : ∃ A : Nat → Prop, A = va_A (fl [(wLo h md eD 0)]) s.heap.size := ⟨_, rfl⟩
  have hD : va_D A (fl [(wLo h md eD 0)]) := by rw [hAe]; exact hD0.self
  have hA : ∀ q : Nat, s.heap.size ≤ q → A q := fun q h => by rw [hAe]; exact Or.inr h
  have hS : va_S A s.heap s.heap [] := va_S.rf
  have hz : lzE eD A s s.heap := by rw [hAe]; exact hz0
  have hl := lv_entry ([.ref h, .int (nI 1)]) (n := 4) (Nat.le_of_ble_eq_true rfl)
  rw [lg_entry_eq]
  generalize (lg_sl ([.ref h, .int (nI 1)]) ++ List.replicate (4 - (lg_sl ([.ref h, .int (nI 1)])).length) Slot.unset).toArray = ls at hl ⊢
  have hl : lv_has ls 4 [(0, .ref h), (1, .int (nI 1))] := hl
  refine lv_aload_n hx hb d_L_grow2_0 rfl (lv_at hl 0 rfl) ?_
  refine fv_get (ci := 8) (v := .ref eD) (C := R_L) (T := F_L) (N := 3) hx hb hts (by decide +kernel) hown hK hP 0 0 rfl rfl rfl 1 (by decide) (hts (.fieldLink R_L 9 "java/util/ArrayList" "elementData" "[Ljava/lang/Object;") (by decide +kernel)) (fun _ h9 => h9) rfl d_L_grow2_1 ?_
  refine va_tlen (v := nI 0) hx hb hz.2.1 hS rfl d_L_grow2_4 ?_
  refine lv_istore_n (lv' := [(2, .int (nI 0)), (0, .ref h), (1, .int (nI 1))]) hx hb d_L_grow2_5 rfl hl (by decide) rfl (fun ls hl => ?_)
  refine lv_iload_n hx hb d_L_grow2_6 rfl (lv_at hl 0 rfl) ?_
  refine nv_if_gt (tgt := 20) hx hb d_L_grow2_7 (by decide) (by omega) (fun c1 => ?_) (fun c1 => ?_)
  · exact absurd c1 (by decide)
  · refine lv_aload_n hx hb d_L_grow2_10 rfl (lv_at hl 1 rfl) ?_
    refine fv_get (ci := 8) (v := .ref eD) (C := R_L) (T := F_L) (N := 3) hx hb hts (by decide +kernel) hown hK hP 0 0 rfl rfl rfl 1 (by decide) (hts (.fieldLink R_L 9 "java/util/ArrayList" "elementData" "[Ljava/lang/Object;") (by decide +kernel)) (fun _ h9 => h9) rfl d_L_grow2_11 ?_
    refine va_gets hx hb hz.1 hS hown (hts (.fieldLink R_L 39 "java/util/ArrayList" "DEFAULTCAPACITY_EMPTY_ELEMENTDATA" "[Ljava/lang/Object;") (by decide +kernel)) (fun _ h9 => h9) d_L_grow2_14 ?_
    refine lv_acmp_eq (rx := some eD) (ry := some eD) (tgt := 45) hx hb d_L_grow2_17 (by decide) (fun _ => ?_) (fun h => absurd rfl h)
    refine lv_aload_n hx hb d_L_grow2_45 rfl (lv_at hl 1 rfl) ?_
    refine lv_bipush (v := nI 10) hx hb d_L_grow2_46 (by decide +kernel) ?_
    refine lv_iload_n hx hb d_L_grow2_48 rfl (lv_at hl 2 rfl) ?_
    refine va_mmax hx hb (by rw [hml]; exact hl.1.symm) hown (hts (.methodLink R_L 79 Lib.Math.max.name) (by decide +kernel)) (hts (.static Lib.Math.max.name) (by decide +kernel)) (hts (.initialized "java/lang/Math") (by decide +kernel)) (hts _ (List.mem_of_getElem? (i := 13) rfl)) (Nat.le_of_ble_eq_true rfl) (Nat.le_of_ble_eq_true rfl) (Nat.zero_le _) (Nat.zero_le _) d_L_grow2_49 ?_
    refine nv_topi (y := nI 10) (by decide +kernel) ?_
    refine fv_newq (kB := kC 3) (N := 10) hx hb hown (hts (.classLink R_L 7 "java/lang/Object") (by decide +kernel)) hz.2.2.2.1 hK hP hD hS hA 3 rfl (by decide +kernel) (by decide +kernel) (Nat.le_of_ble_eq_true rfl) (Nat.le_of_ble_eq_true rfl) d_L_grow2_52 (fun qn2 H hP hD hS => ?_)
    refine W.cs (cells' := 1) (slots' := 10) rfl rfl ?_
    have hP : va_P D cls (fl [(wLo h md eD 0), (wLa kC qn2 (fun _ => none))]) H := hP
    have hD : va_D A (fl [(wLo h md eD 0), (wLa kC qn2 (fun _ => none))]) := hD
    refine lv_dup_x1 hx hb d_L_grow2_55 rfl rfl ?_
    refine fv_put (ci := 8) (v := .ref qn2) (ty := (.array (.object "java/lang/Object"))) (C := R_L) (T := F_L) (N := 3) hx hb hts (by decide +kernel) t_L t_L_ok n_L hown hK hP hD hS 0 0 rfl rfl rfl 1 (by decide) (hts (.fieldLink R_L 9 "java/util/ArrayList" "elementData" "[Ljava/lang/Object;") (by decide +kernel)) (fun _ h9 => h9) rfl (by decide +kernel) (rfl) (rfl) (Nat.le_of_ble_eq_true rfl) d_L_grow2_56 (fun H locs hP hD hS => ?_)
    have hP : va_P D cls (fl [(wLo h md qn2 0), (wLa kC qn2 (fun _ => none))]) H := hP
    have hD : va_D A (fl [(wLo h md qn2 0), (wLa kC qn2 (fun _ => none))]) := hD
    exact W.aret (v := .ref qn2) hx hb hr (Or.inr ⟨_, rfl⟩) (Or.inr ⟨_, rfl⟩) (fun t ht hW => by subst hAe; exact ⟨⟨(), qn2, rfl, trivial, by rw [ht]; exact hP, va_K.moved hW.alike hK, hD⟩, hS.F ht⟩) (by subst hAe; exact hS.2.2) d_L_grow2_59

abbrev b_L_grow : ByteArray := prog_18_method_7_code
def y_L_grow : MethodName := ⟨"java/util/ArrayList", "grow", "()[Ljava/lang/Object;"⟩
theorem d_L_grow_0 : decode b_L_grow 0 = .ok (.aload_n 0, 1) := by decide +kernel
theorem d_L_grow_1 : decode b_L_grow 1 = .ok (.aload_n 0, 1) := by decide +kernel
theorem d_L_grow_2 : decode b_L_grow 2 = .ok (.getfield 48, 3) := by decide +kernel
theorem d_L_grow_5 : decode b_L_grow 5 = .ok (.iconst 1, 1) := by decide +kernel
theorem d_L_grow_6 : decode b_L_grow 6 = .ok (.iadd, 1) := by decide +kernel
theorem d_L_grow_7 : decode b_L_grow 7 = .ok (.invokevirtual 69, 3) := by decide +kernel
theorem d_L_grow_10 : decode b_L_grow 10 = .ok (.areturn, 1) := by decide +kernel
def w_L_grow : List Cond := .code y_L_grow b_L_grow 1 (some (.array (.object "java/lang/Object"))) :: ([.fieldLink "java/util/ArrayList" 48 "java/util/ArrayList" "size" "I", .sameField "java/util/ArrayList" "java/util/AbstractList" "modCount" "I", .methodLink "java/util/ArrayList" 69 ⟨"java/util/ArrayList", "grow", "(I)[Ljava/lang/Object;"⟩, .instanceMethod ⟨"java/util/ArrayList", "grow", "(I)[Ljava/lang/Object;"⟩, .selects "java/util/ArrayList" ⟨"java/util/ArrayList", "grow", "(I)[Ljava/lang/Object;"⟩ ⟨"java/util/ArrayList", "grow", "(I)[Ljava/lang/Object;"⟩, .initialized "java/util/ArrayList", .code ⟨"java/util/ArrayList", "grow", "(I)[Ljava/lang/Object;"⟩ prog_18_method_6_code 4 (some (.array (.object "java/lang/Object"))), .fieldLink "java/util/ArrayList" 9 "java/util/ArrayList" "elementData" "[Ljava/lang/Object;", .fieldLink "java/util/ArrayList" 39 "java/util/ArrayList" "DEFAULTCAPACITY_EMPTY_ELEMENTDATA" "[Ljava/lang/Object;", .methodLink "java/util/ArrayList" 73 ⟨"jdk/internal/util/ArraysSupport", "newLength", "(III)I"⟩, .static ⟨"jdk/internal/util/ArraysSupport", "newLength", "(III)I"⟩, .initialized "jdk/internal/util/ArraysSupport", .methodLink "java/util/ArrayList" 66 ⟨"java/util/Arrays", "copyOf", "([Ljava/lang/Object;I)[Ljava/lang/Object;"⟩, .static ⟨"java/util/Arrays", "copyOf", "([Ljava/lang/Object;I)[Ljava/lang/Object;"⟩, .initialized "java/util/Arrays", .methodLink "java/util/ArrayList" 79 ⟨"java/lang/Math", "max", "(II)I"⟩, .static ⟨"java/lang/Math", "max", "(II)I"⟩, .initialized "java/lang/Math", .code ⟨"java/lang/Math", "max", "(II)I"⟩ prog_14_method_65_code 2 (some .int), .classLink "java/util/ArrayList" 7 "java/lang/Object"] ++ u_ws R_L F_L 3)
set_option maxRecDepth 20000 in
theorem g_L_grow_grow : GoodIn w_L_grow (wsV R_L 69 R_L y_L_grow2 w_L_grow2) := goodIn_p _ [7, 19] rfl (by decide +kernel)
set_option maxHeartbeats 4000000 in
set_option maxRecDepth 100000 in
theorem c_L_grow (l : Launch) (D : va_G) (kC : Nat → ClassId) (h : Nat) (md : Int32) (eD : Nat) (sz : Nat) : Met l y_L_grow w_L_grow ({ frames := 2, cells := 1, slots := 10, locals := 38 } : Room) (gPz cls D (tyL kC) [.ref h] (fl [(wLo h md eD 0)]) sz eD) (gQr cls D (tyL kC) (fl [(wLo h md eD 0)]) sz (fun ra => fl [(wL1 kC h md ra 0 (fun _ => none))])) 1 10 (va_A (fl [(wLo h md eD 0)]) sz) := by
  refine Met.ofW (cc := b_L_grow) (maxL := 1) (ret := (some (.array (.object "java/lang/Object")))) (by decide) rfl ?_
  intro p e s m args below meth c s₁ B hml hv
  obtain ⟨rfl, hsz, hP, hK, hD0, hz0⟩ := hv
  have hx := B.exec
  have hb := B.bytes
  have hr := B.returns
  have hts := atoms_spec (ws := w_L_grow) B.pre
  have hown : s.vm.findClass R_L = some m.cls := findClass_of_methodNamed B.named
  have hlocks := B.notSynchronized
  subst hsz
  obtain ⟨A, hAe⟩ : ∃ A : Nat → Prop, A = va_A (fl [(wLo h md eD 0)]) s.heap.size := ⟨_, rfl⟩
  have hD : va_D A (fl [(wLo h md eD 0)]) := by rw [hAe]; exact hD0.self
  have hA : ∀ q : Nat, s.heap.size ≤ q → A q := fun q h => by rw [hAe]; exact Or.inr h
  have hS : va_S A s.heap s.heap [] := va_S.rf
  have hz : lzE eD A s s.heap := by rw [hAe]; exact hz0
  have hl := lv_entry ([.ref h]) (n := 1) (Nat.le_of_ble_eq_true rfl)
  rw [lg_entry_eq]
  generalize (lg_sl ([.ref h]) ++ List.replicate (1 - (lg_sl ([.ref h])).length) Slot.unset).toArray = ls at hl ⊢
  have hl : lv_has ls 1 [(0, .ref h)] := hl
  refine lv_aload_n hx hb d_L_grow_0 rfl (lv_at hl 0 rfl) ?_
  refine lv_aload_n hx hb d_L_grow_1 rfl (lv_at hl 0 rfl) ?_
  refine fv_get (ci := 8) (v := .int (nI 0)) (C := R_L) (T := F_L) (N := 3) hx hb hts (by decide +kernel) hown hK hP 0 0 rfl rfl rfl 2 (by decide) (hts (.fieldLink R_L 48 "java/util/ArrayList" "size" "I") (by decide +kernel)) (fun _ h9 => h9) rfl d_L_grow_2 ?_
  refine lv_iconst (v := nI 1) hx hb d_L_grow_5 (by decide) ?_
  refine nv_iadd hx hb d_L_grow_6 ?_
  refine nv_topi (y := nI 1) (rfl) ?_
  refine g_callrA (va_runV (As := [.int (nI 1)]) (rest := []) ⟨hx, hb, hml, hown, hts⟩ (c_L_grow2 l D kC h md eD (s.heap).size) (cwV 1 hts g_L_grow_grow rfl rfl rfl (by decide +kernel) ⟨Nat.le_of_ble_eq_true rfl, Nat.le_of_ble_eq_true rfl⟩) (z_preV (f_recv (ci := 8) (q0 := 0) hK hP 0 rfl rfl rfl) hz hS (fl_freeA hD hS hA) hK hP hD) rfl rfl hl.1 rfl (lv_room (Nat.le_of_ble_eq_true rfl)) d_L_grow_7 ⟨Nat.le_of_ble_eq_true rfl, Nat.le_of_ble_eq_true rfl⟩) hS hA hD (fun qr1 H locs hP hD hS => ?_)
  refine W.cs (cells' := 1) (slots' := 10) rfl rfl ?_
  have hP : va_P D cls (fl [(wL1 kC h md qr1 0 (fun _ => none))]) H := hP
  have hD : va_D A (fl [(wL1 kC h md qr1 0 (fun _ => none))]) := hD
  exact W.aret (v := .ref qr1) hx hb hr (Or.inr ⟨_, rfl⟩) (Or.inr ⟨_, rfl⟩) (fun t ht hW => by subst hAe; exact ⟨⟨(), qr1, rfl, trivial, by rw [ht]; exact hP, va_K.moved hW.alike hK, hD⟩, hS.F ht⟩) (by subst hAe; exact hS.2.2) d_L_grow_10

abbrev b_L_add2 : ByteArray := prog_18_method_24_code
def y_L_add2 : MethodName := ⟨"java/util/ArrayList", "add", "(Ljava/lang/Object;[Ljava/lang/Object;I)V"⟩
theorem d_L_add2_0 : decode b_L_add2 0 = .ok (.iload_n 3, 1) := by decide +kernel
theorem d_L_add2_1 : decode b_L_add2 1 = .ok (.aload_n 2, 1) := by decide +kernel
theorem d_L_add2_2 : decode b_L_add2 2 = .ok (.arraylength, 1) := by decide +kernel
theorem d_L_add2_3 : decode b_L_add2 3 = .ok (.if_icmp .ne 8, 3) := by decide +kernel
theorem d_L_add2_6 : decode b_L_add2 6 = .ok (.aload_n 0, 1) := by decide +kernel
theorem d_L_add2_7 : decode b_L_add2 7 = .ok (.invokevirtual 129, 3) := by decide +kernel
theorem d_L_add2_10 : decode b_L_add2 10 = .ok (.astore_n 2, 1) := by decide +kernel
theorem d_L_add2_11 : decode b_L_add2 11 = .ok (.aload_n 2, 1) := by decide +kernel
theorem d_L_add2_12 : decode b_L_add2 12 = .ok (.iload_n 3, 1) := by decide +kernel
theorem d_L_add2_13 : decode b_L_add2 13 = .ok (.aload_n 1, 1) := by decide +kernel
theorem d_L_add2_14 : decode b_L_add2 14 = .ok (.aastore, 1) := by decide +kernel
theorem d_L_add2_15 : decode b_L_add2 15 = .ok (.aload_n 0, 1) := by decide +kernel
theorem d_L_add2_16 : decode b_L_add2 16 = .ok (.iload_n 3, 1) := by decide +kernel
theorem d_L_add2_17 : decode b_L_add2 17 = .ok (.iconst 1, 1) := by decide +kernel
theorem d_L_add2_18 : decode b_L_add2 18 = .ok (.iadd, 1) := by decide +kernel
theorem d_L_add2_19 : decode b_L_add2 19 = .ok (.putfield 48, 3) := by decide +kernel
theorem d_L_add2_22 : decode b_L_add2 22 = .ok (.return_, 1) := by decide +kernel
def w_L_add2 : List Cond := .code y_L_add2 b_L_add2 4 none :: ([.methodLink "java/util/ArrayList" 129 ⟨"java/util/ArrayList", "grow", "()[Ljava/lang/Object;"⟩, .instanceMethod ⟨"java/util/ArrayList", "grow", "()[Ljava/lang/Object;"⟩, .selects "java/util/ArrayList" ⟨"java/util/ArrayList", "grow", "()[Ljava/lang/Object;"⟩ ⟨"java/util/ArrayList", "grow", "()[Ljava/lang/Object;"⟩, .initialized "java/util/ArrayList", .code ⟨"java/util/ArrayList", "grow", "()[Ljava/lang/Object;"⟩ prog_18_method_7_code 1 (some (.array (.object "java/lang/Object"))), .fieldLink "java/util/ArrayList" 48 "java/util/ArrayList" "size" "I", .sameField "java/util/ArrayList" "java/util/AbstractList" "modCount" "I", .methodLink "java/util/ArrayList" 69 ⟨"java/util/ArrayList", "grow", "(I)[Ljava/lang/Object;"⟩, .instanceMethod ⟨"java/util/ArrayList", "grow", "(I)[Ljava/lang/Object;"⟩, .selects "java/util/ArrayList" ⟨"java/util/ArrayList", "grow", "(I)[Ljava/lang/Object;"⟩ ⟨"java/util/ArrayList", "grow", "(I)[Ljava/lang/Object;"⟩, .code ⟨"java/util/ArrayList", "grow", "(I)[Ljava/lang/Object;"⟩ prog_18_method_6_code 4 (some (.array (.object "java/lang/Object"))), .fieldLink "java/util/ArrayList" 9 "java/util/ArrayList" "elementData" "[Ljava/lang/Object;", .fieldLink "java/util/ArrayList" 39 "java/util/ArrayList" "DEFAULTCAPACITY_EMPTY_ELEMENTDATA" "[Ljava/lang/Object;", .methodLink "java/util/ArrayList" 73 ⟨"jdk/internal/util/ArraysSupport", "newLength", "(III)I"⟩, .static ⟨"jdk/internal/util/ArraysSupport", "newLength", "(III)I"⟩, .initialized "jdk/internal/util/ArraysSupport", .methodLink "java/util/ArrayList" 66 ⟨"java/util/Arrays", "copyOf", "([Ljava/lang/Object;I)[Ljava/lang/Object;"⟩, .static ⟨"java/util/Arrays", "copyOf", "([Ljava/lang/Object;I)[Ljava/lang/Object;"⟩, .initialized "java/util/Arrays", .methodLink "java/util/ArrayList" 79 ⟨"java/lang/Math", "max", "(II)I"⟩, .static ⟨"java/lang/Math", "max", "(II)I"⟩, .initialized "java/lang/Math", .code ⟨"java/lang/Math", "max", "(II)I"⟩ prog_14_method_65_code 2 (some .int), .classLink "java/util/ArrayList" 7 "java/lang/Object"] ++ u_ws R_L F_L 3)
set_option maxRecDepth 20000 in
theorem g_L_add2_grow : GoodIn w_L_add2 (wsV R_L 129 R_L y_L_grow w_L_grow) := goodIn_p _ [5, 11, 23] rfl (by decide +kernel)
set_option maxHeartbeats 4000000 in
set_option maxRecDepth 100000 in
theorem c_L_add2f (l : Launch) (D : va_G) (kC : Nat → ClassId) (h : Nat) (md : Int32) (eD : Nat) (el : Nat) (sz : Nat) : Met l y_L_add2 w_L_add2 ({ frames := 3, cells := 1, slots := 10, locals := 60 } : Room) (gPa cls D (tyL kC) [.ref h, .ref el, .ref eD, .int (nI 0)] (fl [(wLo h md eD 0)]) sz eD el) (va_Qv (fun (_ : Nat) => True) (fun u t => gB cls D (tyL kC) (va_A (fl [(wLo h md eD 0)]) sz) (fl [(wL1 kC h md u 1 (va_up (fun _ => none) 0 (some el)))]) t) (va_A (fl [(wLo h md eD 0)]) sz)) 1 10 (va_A (fl [(wLo h md eD 0)]) sz) := by
  refine Met.ofW (cc := b_L_add2) (maxL := 4) (ret := none) (by decide) rfl ?_
  intro p e s m args below meth c s₁ B hml hv
  obtain ⟨rfl, hsz, hP, hK, hD0, hz0, hany, hne0⟩ := hv
  have hx := B.exec
  have hb := B.bytes
  have hr := B.returns
  have hts := atoms_spec (ws := w_L_add2) B.pre
  have hown : s.vm.findClass R_L = some m.cls := findClass_of_methodNamed B.named
  have hlocks := B.notSynchronized
  subst hsz
  obtain ⟨A, hAe⟩ : ∃ A : Nat → Prop, A = va_A (fl [(wLo h md eD 0)]) s.heap.size := ⟨_, rfl⟩
  have hD : va_D A (fl [(wLo h md eD 0)]) := by rw [hAe]; exact hD0.self
  have hA : ∀ q : Nat, s.heap.size ≤ q → A q := fun q h => by rw [hAe]; exact Or.inr h
  have hS : va_S A s.heap s.heap [] := va_S.rf
  have hz : lzE eD A s s.heap := by rw [hAe]; exact hz0
  have hel2 : ¬ A el := by rw [hAe]; exact hne0
  have hel1 : el < s.heap.size := by obtain ⟨cV, hcV, -⟩ := hany; exact (Array.getElem?_eq_some_iff.mp hcV).1
  have hl := lv_entry ([.ref h, .ref el, .ref eD, .int (nI 0)]) (n := 4) (Nat.le_of_ble_eq_true rfl)
  rw [lg_entry_eq]
  generalize (lg_sl ([.ref h, .ref el, .ref eD, .int (nI 0)]) ++ List.replicate (4 - (lg_sl ([.ref h, .ref el, .ref eD, .int (nI 0)])).length) Slot.unset).toArray = ls at hl ⊢
  have hl : lv_has ls 4 [(0, .ref h), (1, .ref el), (2, .ref eD), (3, .int (nI 0))] := hl
  refine lv_iload_n hx hb d_L_add2_0 rfl (lv_at hl 3 rfl) ?_
  refine lv_aload_n hx hb d_L_add2_1 rfl (lv_at hl 2 rfl) ?_
  refine va_tlen (v := nI 0) hx hb hz.2.1 hS rfl d_L_add2_2 ?_
  refine nv_icmp_ne (tgt := 11) hx hb d_L_add2_3 (by decide) (by omega) (by omega) (fun c1 => ?_) (fun c1 => ?_)
  · exact absurd rfl c1
  · refine lv_aload_n hx hb d_L_add2_6 rfl (lv_at hl 0 rfl) ?_
    refine g_callrA (va_runV (As := []) (rest := []) ⟨hx, hb, hml, hown, hts⟩ (c_L_grow l D kC h md eD (s.heap).size) (cwV 0 hts g_L_add2_grow rfl rfl rfl (by decide +kernel) ⟨Nat.le_of_ble_eq_true rfl, Nat.le_of_ble_eq_true rfl⟩) (z_preV (f_recv (ci := 8) (q0 := 0) hK hP 0 rfl rfl rfl) hz hS (fl_freeA hD hS hA) hK hP hD) rfl rfl hl.1 rfl (lv_room (Nat.le_of_ble_eq_true rfl)) d_L_add2_7 ⟨Nat.le_of_ble_eq_true rfl, Nat.le_of_ble_eq_true rfl⟩) hS hA hD (fun qr2 H locs hP hD hS => ?_)
    refine W.cs (cells' := 1) (slots' := 10) rfl rfl ?_
    have hP : va_P D cls (fl [(wL1 kC h md qr2 0 (fun _ => none))]) H := hP
    have hD : va_D A (fl [(wL1 kC h md qr2 0 (fun _ => none))]) := hD
    refine lv_astore_n (lv' := [(2, .ref qr2), (0, .ref h), (1, .ref el), (3, .int (nI 0))]) hx hb d_L_add2_10 rfl hl (by decide) rfl (fun ls hl => ?_)
    refine lv_aload_n hx hb d_L_add2_11 rfl (lv_at hl 0 rfl) ?_
    refine lv_iload_n hx hb d_L_add2_12 rfl (lv_at hl 3 rfl) ?_
    refine lv_aload_n hx hb d_L_add2_13 rfl (lv_at hl 2 rfl) ?_
    refine fa_astqM hx hb hK hP hD hS 0 1 3 rfl rfl rfl (any_kept hany (hS.2.1 el hel1 hel2)) (by omega) (by decide) d_L_add2_14 (fun H locs hP hD hS => ?_)
    have hP : va_P D cls (fl [(wL1 kC h md qr2 0 (va_up (fun _ => none) 0 (some el)))]) H := hP
    have hD : va_D A (fl [(wL1 kC h md qr2 0 (va_up (fun _ => none) 0 (some el)))]) := hD
    refine lv_aload_n hx hb d_L_add2_15 rfl (lv_at hl 1 rfl) ?_
    refine lv_iload_n hx hb d_L_add2_16 rfl (lv_at hl 3 rfl) ?_
    refine lv_iconst (v := nI 1) hx hb d_L_add2_17 (by decide) ?_
    refine nv_iadd hx hb d_L_add2_18 ?_
    refine fv_put (ci := 8) (v := .int (nI (0 + 1))) (ty := (.int)) (C := R_L) (T := F_L) (N := 3) hx hb hts (by decide +kernel) t_L t_L_ok n_L hown hK hP hD hS 0 0 rfl rfl rfl 2 (by decide) (hts (.fieldLink R_L 48 "java/util/ArrayList" "size" "I") (by decide +kernel)) (fun _ h9 => h9) rfl (by decide +kernel) (rfl) (rfl) (Nat.le_of_ble_eq_true rfl) d_L_add2_19 (fun H locs hP hD hS => ?_)
    have hP : va_P D cls (fl [(wL1 kC h md qr2 (0 + 1) (va_up (fun _ => none) 0 (some el)))]) H := hP
    have hD : va_D A (fl [(wL1 kC h md qr2 (0 + 1) (va_up (fun _ => none) 0 (some el)))]) := hD
    exact W.vret hx hb hr (fun t ht hW => by subst hAe; exact ⟨⟨qr2, rfl, trivial, by rw [ht]; exact hP, va_K.moved hW.alike hK, hD⟩, hS.F ht⟩) (by subst hAe; exact hS.2.2) d_L_add2_22

set_option maxHeartbeats 4000000 in
set_option maxRecDepth 100000 in
theorem c_L_add2 (l : Launch) (D : va_G) (kC : Nat → ClassId) (h : Nat) (md : Int32) (x : Nat) (n : Nat) (rf : Nat → Option Nat) (eD : Nat) (el : Nat) (sz : Nat) (hn : n < 10) : Met l y_L_add2 w_L_add2 ({ frames := 3, cells := 0, slots := 0, locals := 60 } : Room) (gPa cls D (tyL kC) [.ref h, .ref el, .ref x, .int (nI n)] (fl [(wL1 kC h md x n rf)]) sz eD el) (gQv cls D (tyL kC) (fl [(wL1 kC h md x n rf)]) sz (fl [(wL1 kC h md x (n + 1) (va_up rf n (some el)))])) 0 0 (va_A (fl [(wL1 kC h md x n rf)]) sz) := by
  refine Met.ofW (cc := b_L_add2) (maxL := 4) (ret := none) (by decide) rfl ?_
  intro p e s m args below meth c s₁ B hml hv
  obtain ⟨rfl, hsz, hP, hK, hD0, hz0, hany, hne0⟩ := hv
  have hx := B.exec
  have hb := B.bytes
  have hr := B.returns
  have hts := atoms_spec (ws := w_L_add2) B.pre
  have hown : s.vm.findClass R_L = some m.cls := findClass_of_methodNamed B.named
  have hlocks := B.notSynchronized
  subst hsz
  obtain ⟨A, hAe⟩ : ∃ A : Nat → Prop, A = va_A (fl [(wL1 kC h md x n rf)]) s.heap.size := ⟨_, rfl⟩
  have hD : va_D A (fl [(wL1 kC h md x n rf)]) := by rw [hAe]; exact hD0.self
  have hA : ∀ q : Nat, s.heap.size ≤ q → A q := fun q h => by rw [hAe]; exact Or.inr h
  have hS : va_S A s.heap s.heap [] := va_S.rf
  have hz : lzE eD A s s.heap := by rw [hAe]; exact hz0
  have hel2 : ¬ A el := by rw [hAe]; exact hne0
  have hel1 : el < s.heap.size := by obtain ⟨cV, hcV, -⟩ := hany; exact (Array.getElem?_eq_some_iff.mp hcV).1
  have hl := lv_entry ([.ref h, .ref el, .ref x, .int (nI n)]) (n := 4) (Nat.le_of_ble_eq_true rfl)
  rw [lg_entry_eq]
  generalize (lg_sl ([.ref h, .ref el, .ref x, .int (nI n)]) ++ List.replicate (4 - (lg_sl ([.ref h, .ref el, .ref x, .int (nI n)])).length) Slot.unset).toArray = ls at hl ⊢
  have hl : lv_has ls 4 [(0, .ref h), (1, .ref el), (2, .ref x), (3, .int (nI n))] := hl
  refine lv_iload_n hx hb d_L_add2_0 rfl (lv_at hl 3 rfl) ?_
  refine lv_aload_n hx hb d_L_add2_1 rfl (lv_at hl 2 rfl) ?_
  refine va_alen (v := nI 10) hx hb hK (fl_P hP 0 rfl) 1 3 rfl rfl rfl d_L_add2_2 ?_
  refine nv_icmp_ne (tgt := 11) hx hb d_L_add2_3 (by decide) (by omega) (by omega) (fun c1 => ?_) (fun c1 => ?_)
  · refine lv_aload_n hx hb d_L_add2_11 rfl (lv_at hl 2 rfl) ?_
    refine lv_iload_n hx hb d_L_add2_12 rfl (lv_at hl 3 rfl) ?_
    refine lv_aload_n hx hb d_L_add2_13 rfl (lv_at hl 1 rfl) ?_
    refine fa_astqM hx hb hK hP hD hS 0 1 3 rfl rfl rfl (any_kept hany (hS.2.1 el hel1 hel2)) (by omega) (by decide) d_L_add2_14 (fun H locs hP hD hS => ?_)
    have hP : va_P D cls (fl [(wL1 kC h md x n (va_up rf n (some el)))]) H := hP
    have hD : va_D A (fl [(wL1 kC h md x n (va_up rf n (some el)))]) := hD
    refine lv_aload_n hx hb d_L_add2_15 rfl (lv_at hl 0 rfl) ?_
    refine lv_iload_n hx hb d_L_add2_16 rfl (lv_at hl 3 rfl) ?_
    refine lv_iconst (v := nI 1) hx hb d_L_add2_17 (by decide) ?_
    refine nv_iadd hx hb d_L_add2_18 ?_
    refine fv_put (ci := 8) (v := .int (nI (n + 1))) (ty := (.int)) (C := R_L) (T := F_L) (N := 3) hx hb hts (by decide +kernel) t_L t_L_ok n_L hown hK hP hD hS 0 0 rfl rfl rfl 2 (by decide) (hts (.fieldLink R_L 48 "java/util/ArrayList" "size" "I") (by decide +kernel)) (fun _ h9 => h9) rfl (by decide +kernel) (rfl) (rfl) (Nat.le_of_ble_eq_true rfl) d_L_add2_19 (fun H locs hP hD hS => ?_)
    have hP : va_P D cls (fl [(wL1 kC h md x (n + 1) (va_up rf n (some el)))]) H := hP
    have hD : va_D A (fl [(wL1 kC h md x (n + 1) (va_up rf n (some el)))]) := hD
    exact W.vret hx hb hr (fun t ht hW => by subst hAe; exact ⟨⟨(), rfl, trivial, by rw [ht]; exact hP, va_K.moved hW.alike hK, hD⟩, hS.F ht⟩) (by subst hAe; exact hS.2.2) d_L_add2_22
  · exact absurd c1 (by omega)

abbrev b_L_add : ByteArray := prog_18_method_25_code
def y_L_add : MethodName := ⟨"java/util/ArrayList", "add", "(Ljava/lang/Object;)Z"⟩
theorem d_L_add_0 : decode b_L_add 0 = .ok (.aload_n 0, 1) := by decide +kernel
theorem d_L_add_1 : decode b_L_add 1 = .ok (.dup, 1) := by decide +kernel
theorem d_L_add_2 : decode b_L_add 2 = .ok (.getfield 63, 3) := by decide +kernel
theorem d_L_add_5 : decode b_L_add 5 = .ok (.iconst 1, 1) := by decide +kernel
theorem d_L_add_6 : decode b_L_add 6 = .ok (.iadd, 1) := by decide +kernel
theorem d_L_add_7 : decode b_L_add 7 = .ok (.putfield 63, 3) := by decide +kernel
theorem d_L_add_10 : decode b_L_add 10 = .ok (.aload_n 0, 1) := by decide +kernel
theorem d_L_add_11 : decode b_L_add 11 = .ok (.aload_n 1, 1) := by decide +kernel
theorem d_L_add_12 : decode b_L_add 12 = .ok (.aload_n 0, 1) := by decide +kernel
theorem d_L_add_13 : decode b_L_add 13 = .ok (.getfield 9, 3) := by decide +kernel
theorem d_L_add_16 : decode b_L_add 16 = .ok (.aload_n 0, 1) := by decide +kernel
theorem d_L_add_17 : decode b_L_add 17 = .ok (.getfield 48, 3) := by decide +kernel
theorem d_L_add_20 : decode b_L_add 20 = .ok (.invokevirtual 131, 3) := by decide +kernel
theorem d_L_add_23 : decode b_L_add 23 = .ok (.iconst 1, 1) := by decide +kernel
theorem d_L_add_24 : decode b_L_add 24 = .ok (.ireturn, 1) := by decide +kernel
def w_L_add : List Cond := .code y_L_add b_L_add 2 (some .boolean) :: ([.fieldLink "java/util/ArrayList" 63 "java/util/ArrayList" "modCount" "I", .sameField "java/util/ArrayList" "java/util/AbstractList" "modCount" "I", .fieldLink "java/util/ArrayList" 9 "java/util/ArrayList" "elementData" "[Ljava/lang/Object;", .fieldLink "java/util/ArrayList" 48 "java/util/ArrayList" "size" "I", .methodLink "java/util/ArrayList" 131 ⟨"java/util/ArrayList", "add", "(Ljava/lang/Object;[Ljava/lang/Object;I)V"⟩, .instanceMethod ⟨"java/util/ArrayList", "add", "(Ljava/lang/Object;[Ljava/lang/Object;I)V"⟩, .selects "java/util/ArrayList" ⟨"java/util/ArrayList", "add", "(Ljava/lang/Object;[Ljava/lang/Object;I)V"⟩ ⟨"java/util/ArrayList", "add", "(Ljava/lang/Object;[Ljava/lang/Object;I)V"⟩, .initialized "java/util/ArrayList", .code ⟨"java/util/ArrayList", "add", "(Ljava/lang/Object;[Ljava/lang/Object;I)V"⟩ prog_18_method_24_code 4 none, .methodLink "java/util/ArrayList" 129 ⟨"java/util/ArrayList", "grow", "()[Ljava/lang/Object;"⟩, .instanceMethod ⟨"java/util/ArrayList", "grow", "()[Ljava/lang/Object;"⟩, .selects "java/util/ArrayList" ⟨"java/util/ArrayList", "grow", "()[Ljava/lang/Object;"⟩ ⟨"java/util/ArrayList", "grow", "()[Ljava/lang/Object;"⟩, .code ⟨"java/util/ArrayList", "grow", "()[Ljava/lang/Object;"⟩ prog_18_method_7_code 1 (some (.array (.object "java/lang/Object"))), .methodLink "java/util/ArrayList" 69 ⟨"java/util/ArrayList", "grow", "(I)[Ljava/lang/Object;"⟩, .instanceMethod ⟨"java/util/ArrayList", "grow", "(I)[Ljava/lang/Object;"⟩, .selects "java/util/ArrayList" ⟨"java/util/ArrayList", "grow", "(I)[Ljava/lang/Object;"⟩ ⟨"java/util/ArrayList", "grow", "(I)[Ljava/lang/Object;"⟩, .code ⟨"java/util/ArrayList", "grow", "(I)[Ljava/lang/Object;"⟩ prog_18_method_6_code 4 (some (.array (.object "java/lang/Object"))), .fieldLink "java/util/ArrayList" 39 "java/util/ArrayList" "DEFAULTCAPACITY_EMPTY_ELEMENTDATA" "[Ljava/lang/Object;", .methodLink "java/util/ArrayList" 73 ⟨"jdk/internal/util/ArraysSupport", "newLength", "(III)I"⟩, .static ⟨"jdk/internal/util/ArraysSupport", "newLength", "(III)I"⟩, .initialized "jdk/internal/util/ArraysSupport", .methodLink "java/util/ArrayList" 66 ⟨"java/util/Arrays", "copyOf", "([Ljava/lang/Object;I)[Ljava/lang/Object;"⟩, .static ⟨"java/util/Arrays", "copyOf", "([Ljava/lang/Object;I)[Ljava/lang/Object;"⟩, .initialized "java/util/Arrays", .methodLink "java/util/ArrayList" 79 ⟨"java/lang/Math", "max", "(II)I"⟩, .static ⟨"java/lang/Math", "max", "(II)I"⟩, .initialized "java/lang/Math", .code ⟨"java/lang/Math", "max", "(II)I"⟩ prog_14_method_65_code 2 (some .int), .classLink "java/util/ArrayList" 7 "java/lang/Object"] ++ u_ws R_L F_L 3)
set_option maxRecDepth 20000 in
theorem g_L_add_add2 : GoodIn w_L_add (wsV R_L 131 R_L y_L_add2 w_L_add2) := goodIn_p _ [9, 13, 17, 28] rfl (by decide +kernel)
set_option maxHeartbeats 4000000 in
set_option maxRecDepth 100000 in
theorem c_L_addf (l : Launch) (D : va_G) (kC : Nat → ClassId) (h : Nat) (md : Int32) (eD : Nat) (el : Nat) (sz : Nat) : Met l y_L_add w_L_add ({ frames := 4, cells := 1, slots := 10, locals := 84 } : Room) (gPa cls D (tyL kC) [.ref h, .ref el] (fl [(wLo h md eD 0)]) sz eD el) (va_Qi (fun r (_ : Nat) => r = nI 1) (fun u t => gB cls D (tyL kC) (va_A (fl [(wLo h md eD 0)]) sz) (fl [(wL1 kC h (md + nI 1) u 1 (va_up (fun _ => none) 0 (some el)))]) t) (va_A (fl [(wLo h md eD 0)]) sz)) 1 10 (va_A (fl [(wLo h md eD 0)]) sz) := by
  refine Met.ofW (cc := b_L_add) (maxL := 2) (ret := (some .boolean)) (by decide) rfl ?_
  intro p e s m args below meth c s₁ B hml hv
  obtain ⟨rfl, hsz, hP, hK, hD0, hz0, hany, hne0⟩ := hv
  have hx := B.exec
  have hb := B.bytes
  have hr := B.returns
  have hts := atoms_spec (ws := w_L_add) B.pre
  have hown : s.vm.findClass R_L = some m.cls := findClass_of_methodNamed B.named
  have hlocks := B.notSynchronized
  subst hsz
  obtain ⟨A, hAe⟩ : ∃ A : Nat → Prop, A = va_A (fl [(wLo h md eD 0)]) s.heap.size := ⟨_, rfl⟩
  have hD : va_D A (fl [(wLo h md eD 0)]) := by rw [hAe]; exact hD0.self
  have hA : ∀ q : Nat, s.heap.size ≤ q → A q := fun q h => by rw [hAe]; exact Or.inr h
  have hS : va_S A s.heap s.heap [] := va_S.rf
  have hz : lzE eD A s s.heap := by rw [hAe]; exact hz0
  have hel2 : ¬ A el := by rw [hAe]; exact hne0
  have hel1 : el < s.heap.size := by obtain ⟨cV, hcV, -⟩ := hany; exact (Array.getElem?_eq_some_iff.mp hcV).1
  have hl := lv_entry ([.ref h, .ref el]) (n := 2) (Nat.le_of_ble_eq_true rfl)
  rw [lg_entry_eq]
  generalize (lg_sl ([.ref h, .ref el]) ++ List.replicate (2 - (lg_sl ([.ref h, .ref el])).length) Slot.unset).toArray = ls at hl ⊢
  have hl : lv_has ls 2 [(0, .ref h), (1, .ref el)] := hl
  refine lv_aload_n hx hb d_L_add_0 rfl (lv_at hl 0 rfl) ?_
  refine lv_dup hx hb d_L_add_1 rfl ?_
  refine fv_get (ci := 8) (v := .int md) (C := R_L) (T := F_L) (N := 3) hx hb hts (by decide +kernel) hown hK hP 0 0 rfl rfl rfl 0 (by decide) (hts (.fieldLink R_L 63 "java/util/ArrayList" "modCount" "I") (by decide +kernel)) (fun x9 h9 => u_same (hts (.sameField "java/util/ArrayList" "java/util/AbstractList" "modCount" "I") (by decide +kernel)) x9 h9) rfl d_L_add_2 ?_
  refine lv_iconst (v := nI 1) hx hb d_L_add_5 (by decide) ?_
  refine lv_iadd hx hb d_L_add_6 ?_
  refine fv_put (ci := 8) (v := .int (md + (nI 1))) (ty := (.int)) (C := R_L) (T := F_L) (N := 3) hx hb hts (by decide +kernel) t_L t_L_ok n_L hown hK hP hD hS 0 0 rfl rfl rfl 0 (by decide) (hts (.fieldLink R_L 63 "java/util/ArrayList" "modCount" "I") (by decide +kernel)) (fun x9 h9 => u_same (hts (.sameField "java/util/ArrayList" "java/util/AbstractList" "modCount" "I") (by decide +kernel)) x9 h9) rfl (by decide +kernel) (rfl) (rfl) (Nat.le_of_ble_eq_true rfl) d_L_add_7 (fun H locs hP hD hS => ?_)
  have hP : va_P D cls (fl [(wLo h (md + (nI 1)) eD 0)]) H := hP
  have hD : va_D A (fl [(wLo h (md + (nI 1)) eD 0)]) := hD
  refine lv_aload_n hx hb d_L_add_10 rfl (lv_at hl 0 rfl) ?_
  refine lv_aload_n hx hb d_L_add_11 rfl (lv_at hl 1 rfl) ?_
  refine lv_aload_n hx hb d_L_add_12 rfl (lv_at hl 0 rfl) ?_
  refine fv_get (ci := 8) (v := .ref eD) (C := R_L) (T := F_L) (N := 3) hx hb hts (by decide +kernel) hown hK hP 0 0 rfl rfl rfl 1 (by decide) (hts (.fieldLink R_L 9 "java/util/ArrayList" "elementData" "[Ljava/lang/Object;") (by decide +kernel)) (fun _ h9 => h9) rfl d_L_add_13 ?_
  refine lv_aload_n hx hb d_L_add_16 rfl (lv_at hl 0 rfl) ?_
  refine fv_get (ci := 8) (v := .int (nI 0)) (C := R_L) (T := F_L) (N := 3) hx hb hts (by decide +kernel) hown hK hP 0 0 rfl rfl rfl 2 (by decide) (hts (.fieldLink R_L 48 "java/util/ArrayList" "size" "I") (by decide +kernel)) (fun _ h9 => h9) rfl d_L_add_17 ?_
  have hany0 := any_kept hany (hS.2.1 el hel1 hel2)
  have hne1 : ¬ va_A (fl [(wLo h (md + (nI 1)) eD 0)]) H.size el := fun q => hel2 (fl_freeA hD hS hA el q)
  refine g_callvSA (va_runV (As := [.ref el, .ref eD, .int (nI 0)]) (rest := []) ⟨hx, hb, hml, hown, hts⟩ (c_L_add2f l D kC h (md + (nI 1)) eD el (H).size) (cwV 3 hts g_L_add_add2 rfl rfl rfl (by decide +kernel) ⟨Nat.le_of_ble_eq_true rfl, Nat.le_of_ble_eq_true rfl⟩) (a_preV (f_recv (ci := 8) (q0 := 0) hK hP 0 rfl rfl rfl) hz hS (fl_freeA hD hS hA) hK hP hD hany0 hne1) rfl rfl hl.1 rfl (lv_room (Nat.le_of_ble_eq_true rfl)) d_L_add_20 ⟨Nat.le_of_ble_eq_true rfl, Nat.le_of_ble_eq_true rfl⟩) hS hA hD (fun qu1 H locs _ hP hD hS hkp => ?_)
  refine W.cs (cells' := 1) (slots' := 10) rfl rfl ?_
  have hP : va_P D cls (fl [(wL1 kC h (md + (nI 1)) qu1 1 (va_up (fun _ => none) 0 (some el)))]) H := hP
  have hD : va_D A (fl [(wL1 kC h (md + (nI 1)) qu1 1 (va_up (fun _ => none) 0 (some el)))]) := hD
  refine lv_iconst (v := nI 1) hx hb d_L_add_23 (by decide) ?_
  exact W.zret (v := nI 1) hx hb hr (nar_b (by first | exact Or.inl rfl | exact Or.inr rfl | exact bI_01)) (fun t ht hW => by subst hAe; exact ⟨⟨(nI 1), qu1, rfl, rfl, by rw [ht]; exact hP, va_K.moved hW.alike hK, hD⟩, hS.F ht⟩) (by subst hAe; exact hS.2.2) d_L_add_24

set_option maxHeartbeats 4000000 in
set_option maxRecDepth 100000 in
theorem c_L_addm (l : Launch) (D : va_G) (kC : Nat → ClassId) (h : Nat) (md : Int32) (x : Nat) (n : Nat) (rf : Nat → Option Nat) (eD : Nat) (el : Nat) (sz : Nat) (hn : n < 10) : Met l y_L_add w_L_add ({ frames := 4, cells := 1, slots := 10, locals := 84 } : Room) (gPa cls D (tyL kC) [.ref h, .ref el] (fl [(wL1 kC h md x n rf)]) sz eD el) (va_Qi (fun r (_ : Nat) => r = nI 1) (fun u t => gB cls D (tyL kC) (va_A (fl [(wL1 kC h md x n rf)]) sz) (fl [(wL1 kC h (md + nI 1) u (n + 1) (va_up rf n (some el)))]) t) (va_A (fl [(wL1 kC h md x n rf)]) sz)) 1 10 (va_A (fl [(wL1 kC h md x n rf)]) sz) := by
  refine Met.ofW (cc := b_L_add) (maxL := 2) (ret := (some .boolean)) (by decide) rfl ?_
  intro p e s m args below meth c s₁ B hml hv
  obtain ⟨rfl, hsz, hP, hK, hD0, hz0, hany, hne0⟩ := hv
  have hx := B.exec
  have hb := B.bytes
  have hr := B.returns
  have hts := atoms_spec (ws := w_L_add) B.pre
  have hown : s.vm.findClass R_L = some m.cls := findClass_of_methodNamed B.named
  have hlocks := B.notSynchronized
  subst hsz
  obtain ⟨A, hAe⟩ : ∃ A : Nat → Prop, A = va_A (fl [(wL1 kC h md x n rf)]) s.heap.size := ⟨_, rfl⟩
  have hD : va_D A (fl [(wL1 kC h md x n rf)]) := by rw [hAe]; exact hD0.self
  have hA : ∀ q : Nat, s.heap.size ≤ q → A q := fun q h => by rw [hAe]; exact Or.inr h
  have hS : va_S A s.heap s.heap [] := va_S.rf
  have hz : lzE eD A s s.heap := by rw [hAe]; exact hz0
  have hel2 : ¬ A el := by rw [hAe]; exact hne0
  have hel1 : el < s.heap.size := by obtain ⟨cV, hcV, -⟩ := hany; exact (Array.getElem?_eq_some_iff.mp hcV).1
  have hl := lv_entry ([.ref h, .ref el]) (n := 2) (Nat.le_of_ble_eq_true rfl)
  rw [lg_entry_eq]
  generalize (lg_sl ([.ref h, .ref el]) ++ List.replicate (2 - (lg_sl ([.ref h, .ref el])).length) Slot.unset).toArray = ls at hl ⊢
  have hl : lv_has ls 2 [(0, .ref h), (1, .ref el)] := hl
  refine lv_aload_n hx hb d_L_add_0 rfl (lv_at hl 0 rfl) ?_
  refine lv_dup hx hb d_L_add_1 rfl ?_
  refine fv_get (ci := 8) (v := .int md) (C := R_L) (T := F_L) (N := 3) hx hb hts (by decide +kernel) hown hK hP 0 0 rfl rfl rfl 0 (by decide) (hts (.fieldLink R_L 63 "java/util/ArrayList" "modCount" "I") (by decide +kernel)) (fun x9 h9 => u_same (hts (.sameField "java/util/ArrayList" "java/util/AbstractList" "modCount" "I") (by decide +kernel)) x9 h9) rfl d_L_add_2 ?_
  refine lv_iconst (v := nI 1) hx hb d_L_add_5 (by decide) ?_
  refine lv_iadd hx hb d_L_add_6 ?_
  refine fv_put (ci := 8) (v := .int (md + (nI 1))) (ty := (.int)) (C := R_L) (T := F_L) (N := 3) hx hb hts (by decide +kernel) t_L t_L_ok n_L hown hK hP hD hS 0 0 rfl rfl rfl 0 (by decide) (hts (.fieldLink R_L 63 "java/util/ArrayList" "modCount" "I") (by decide +kernel)) (fun x9 h9 => u_same (hts (.sameField "java/util/ArrayList" "java/util/AbstractList" "modCount" "I") (by decide +kernel)) x9 h9) rfl (by decide +kernel) (rfl) (rfl) (Nat.le_of_ble_eq_true rfl) d_L_add_7 (fun H locs hP hD hS => ?_)
  have hP : va_P D cls (fl [(wL1 kC h (md + (nI 1)) x n rf)]) H := hP
  have hD : va_D A (fl [(wL1 kC h (md + (nI 1)) x n rf)]) := hD
  refine lv_aload_n hx hb d_L_add_10 rfl (lv_at hl 0 rfl) ?_
  refine lv_aload_n hx hb d_L_add_11 rfl (lv_at hl 1 rfl) ?_
  refine lv_aload_n hx hb d_L_add_12 rfl (lv_at hl 0 rfl) ?_
  refine fv_get (ci := 8) (v := .ref x) (C := R_L) (T := F_L) (N := 3) hx hb hts (by decide +kernel) hown hK hP 0 0 rfl rfl rfl 1 (by decide) (hts (.fieldLink R_L 9 "java/util/ArrayList" "elementData" "[Ljava/lang/Object;") (by decide +kernel)) (fun _ h9 => h9) rfl d_L_add_13 ?_
  refine lv_aload_n hx hb d_L_add_16 rfl (lv_at hl 0 rfl) ?_
  refine fv_get (ci := 8) (v := .int (nI n)) (C := R_L) (T := F_L) (N := 3) hx hb hts (by decide +kernel) hown hK hP 0 0 rfl rfl rfl 2 (by decide) (hts (.fieldLink R_L 48 "java/util/ArrayList" "size" "I") (by decide +kernel)) (fun _ h9 => h9) rfl d_L_add_17 ?_
  have hany0 := any_kept hany (hS.2.1 el hel1 hel2)
  have hne1 : ¬ va_A (fl [(wL1 kC h (md + (nI 1)) x n rf)]) H.size el := fun q => hel2 (fl_freeA hD hS hA el q)
  refine g_callvA (va_runV (As := [.ref el, .ref x, .int (nI n)]) (rest := []) ⟨hx, hb, hml, hown, hts⟩ (c_L_add2 l D kC h (md + (nI 1)) x n rf eD el (H).size (hn)) (cwV 3 hts g_L_add_add2 rfl rfl rfl (by decide +kernel) ⟨Nat.le_of_ble_eq_true rfl, Nat.le_of_ble_eq_true rfl⟩) (a_preV (f_recv (ci := 8) (q0 := 0) hK hP 0 rfl rfl rfl) hz hS (fl_freeA hD hS hA) hK hP hD hany0 hne1) rfl rfl hl.1 rfl (lv_room (Nat.le_of_ble_eq_true rfl)) d_L_add_20 ⟨Nat.le_of_ble_eq_true rfl, Nat.le_of_ble_eq_true rfl⟩) hS hA hD (fun H locs hP hD hS => ?_)
  refine W.cs (cells' := 0) (slots' := 0) rfl rfl ?_
  have hP : va_P D cls (fl [(wL1 kC h (md + (nI 1)) x (n + 1) (va_up rf n (some el)))]) H := hP
  have hD : va_D A (fl [(wL1 kC h (md + (nI 1)) x (n + 1) (va_up rf n (some el)))]) := hD
  refine lv_iconst (v := nI 1) hx hb d_L_add_23 (by decide) ?_
  refine W_more (cells' := 1) (slots' := 10) (by decide) (by decide) ?_
  exact W.zret (v := nI 1) hx hb hr (nar_b (by first | exact Or.inl rfl | exact Or.inr rfl | exact bI_01)) (fun t ht hW => by subst hAe; exact ⟨⟨(nI 1), x, rfl, rfl, by rw [ht]; exact hP, va_K.moved hW.alike hK, hD⟩, hS.F ht⟩) (by subst hAe; exact hS.2.2) d_L_add_24

set_option maxHeartbeats 4000000 in
set_option maxRecDepth 100000 in
theorem c_L_add (l : Launch) (D : va_G) (kC : Nat → ClassId) (h : Nat) (md : Int32) (x : Nat) (n : Nat) (rf : Nat → Option Nat) (eD : Nat) (el : Nat) (sz : Nat) (hn : n < 10) : Met l y_L_add w_L_add ({ frames := 4, cells := 0, slots := 0, locals := 84 } : Room) (gPa cls D (tyL kC) [.ref h, .ref el] (fl [(wL1 kC h md x n rf)]) sz eD el) (gQi cls D (tyL kC) (fl [(wL1 kC h md x n rf)]) sz (nI 1) (fl [(wL1 kC h (md + nI 1) x (n + 1) (va_up rf n (some el)))])) 0 0 (va_A (fl [(wL1 kC h md x n rf)]) sz) := by
  refine Met.ofW (cc := b_L_add) (maxL := 2) (ret := (some .boolean)) (by decide) rfl ?_
  intro p e s m args below meth c s₁ B hml hv
  obtain ⟨rfl, hsz, hP, hK, hD0, hz0, hany, hne0⟩ := hv
  have hx := B.exec
  have hb := B.bytes
  have hr := B.returns
  have hts := atoms_spec (ws := w_L_add) B.pre
  have hown : s.vm.findClass R_L = some m.cls := findClass_of_methodNamed B.named
  have hlocks := B.notSynchronized
  subst hsz
  obtain ⟨A, hAe⟩ : ∃ A : Nat → Prop, A = va_A (fl [(wL1 kC h md x n rf)]) s.heap.size := ⟨_, rfl⟩
  have hD : va_D A (fl [(wL1 kC h md x n rf)]) := by rw [hAe]; exact hD0.self
  have hA : ∀ q : Nat, s.heap.size ≤ q → A q := fun q h => by rw [hAe]; exact Or.inr h
  have hS : va_S A s.heap s.heap [] := va_S.rf
  have hz : lzE eD A s s.heap := by rw [hAe]; exact hz0
  have hel2 : ¬ A el := by rw [hAe]; exact hne0
  have hel1 : el < s.heap.size := by obtain ⟨cV, hcV, -⟩ := hany; exact (Array.getElem?_eq_some_iff.mp hcV).1
  have hl := lv_entry ([.ref h, .ref el]) (n := 2) (Nat.le_of_ble_eq_true rfl)
  rw [lg_entry_eq]
  generalize (lg_sl ([.ref h, .ref el]) ++ List.replicate (2 - (lg_sl ([.ref h, .ref el])).length) Slot.unset).toArray = ls at hl ⊢
  have hl : lv_has ls 2 [(0, .ref h), (1, .ref el)] := hl
  refine lv_aload_n hx hb d_L_add_0 rfl (lv_at hl 0 rfl) ?_
  refine lv_dup hx hb d_L_add_1 rfl ?_
  refine fv_get (ci := 8) (v := .int md) (C := R_L) (T := F_L) (N := 3) hx hb hts (by decide +kernel) hown hK hP 0 0 rfl rfl rfl 0 (by decide) (hts (.fieldLink R_L 63 "java/util/ArrayList" "modCount" "I") (by decide +kernel)) (fun x9 h9 => u_same (hts (.sameField "java/util/ArrayList" "java/util/AbstractList" "modCount" "I") (by decide +kernel)) x9 h9) rfl d_L_add_2 ?_
  refine lv_iconst (v := nI 1) hx hb d_L_add_5 (by decide) ?_
  refine lv_iadd hx hb d_L_add_6 ?_
  refine fv_put (ci := 8) (v := .int (md + (nI 1))) (ty := (.int)) (C := R_L) (T := F_L) (N := 3) hx hb hts (by decide +kernel) t_L t_L_ok n_L hown hK hP hD hS 0 0 rfl rfl rfl 0 (by decide) (hts (.fieldLink R_L 63 "java/util/ArrayList" "modCount" "I") (by decide +kernel)) (fun x9 h9 => u_same (hts (.sameField "java/util/ArrayList" "java/util/AbstractList" "modCount" "I") (by decide +kernel)) x9 h9) rfl (by decide +kernel) (rfl) (rfl) (Nat.le_of_ble_eq_true rfl) d_L_add_7 (fun H locs hP hD hS => ?_)
  have hP : va_P D cls (fl [(wL1 kC h (md + (nI 1)) x n rf)]) H := hP
  have hD : va_D A (fl [(wL1 kC h (md + (nI 1)) x n rf)]) := hD
  refine lv_aload_n hx hb d_L_add_10 rfl (lv_at hl 0 rfl) ?_
  refine lv_aload_n hx hb d_L_add_11 rfl (lv_at hl 1 rfl) ?_
  refine lv_aload_n hx hb d_L_add_12 rfl (lv_at hl 0 rfl) ?_
  refine fv_get (ci := 8) (v := .ref x) (C := R_L) (T := F_L) (N := 3) hx hb hts (by decide +kernel) hown hK hP 0 0 rfl rfl rfl 1 (by decide) (hts (.fieldLink R_L 9 "java/util/ArrayList" "elementData" "[Ljava/lang/Object;") (by decide +kernel)) (fun _ h9 => h9) rfl d_L_add_13 ?_
  refine lv_aload_n hx hb d_L_add_16 rfl (lv_at hl 0 rfl) ?_
  refine fv_get (ci := 8) (v := .int (nI n)) (C := R_L) (T := F_L) (N := 3) hx hb hts (by decide +kernel) hown hK hP 0 0 rfl rfl rfl 2 (by decide) (hts (.fieldLink R_L 48 "java/util/ArrayList" "size" "I") (by decide +kernel)) (fun _ h9 => h9) rfl d_L_add_17 ?_
  have hany0 := any_kept hany (hS.2.1 el hel1 hel2)
  have hne1 : ¬ va_A (fl [(wL1 kC h (md + (nI 1)) x n rf)]) H.size el := fun q => hel2 (fl_freeA hD hS hA el q)
  refine g_callvA (va_runV (As := [.ref el, .ref x, .int (nI n)]) (rest := []) ⟨hx, hb, hml, hown, hts⟩ (c_L_add2 l D kC h (md + (nI 1)) x n rf eD el (H).size (hn)) (cwV 3 hts g_L_add_add2 rfl rfl rfl (by decide +kernel) ⟨Nat.le_of_ble_eq_true rfl, Nat.le_of_ble_eq_true rfl⟩) (a_preV (f_recv (ci := 8) (q0 := 0) hK hP 0 rfl rfl rfl) hz hS (fl_freeA hD hS hA) hK hP hD hany0 hne1) rfl rfl hl.1 rfl (lv_room (Nat.le_of_ble_eq_true rfl)) d_L_add_20 ⟨Nat.le_of_ble_eq_true rfl, Nat.le_of_ble_eq_true rfl⟩) hS hA hD (fun H locs hP hD hS => ?_)
  refine W.cs (cells' := 0) (slots' := 0) rfl rfl ?_
  have hP : va_P D cls (fl [(wL1 kC h (md + (nI 1)) x (n + 1) (va_up rf n (some el)))]) H := hP
  have hD : va_D A (fl [(wL1 kC h (md + (nI 1)) x (n + 1) (va_up rf n (some el)))]) := hD
  refine lv_iconst (v := nI 1) hx hb d_L_add_23 (by decide) ?_
  exact W.zret (v := nI 1) hx hb hr (nar_b (by first | exact Or.inl rfl | exact Or.inr rfl | exact bI_01)) (fun t ht hW => by subst hAe; exact ⟨⟨(nI 1), (), rfl, rfl, by rw [ht]; exact hP, va_K.moved hW.alike hK, hD⟩, hS.F ht⟩) (by subst hAe; exact hS.2.2) d_L_add_24

