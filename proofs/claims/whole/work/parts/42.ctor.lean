abbrev b_R_i : ByteArray := prog_6_method_1_code
def y_R_i : MethodName := ⟨"PartShelves$PriceRows", "<init>", "()V"⟩
theorem d_R_i_0 : decode b_R_i 0 = .ok (.aload_n 0, 1) := by decide +kernel
theorem d_R_i_1 : decode b_R_i 1 = .ok (.invokespecial 3, 3) := by decide +kernel
theorem d_R_i_4 : decode b_R_i 4 = .ok (.aload_n 0, 1) := by decide +kernel
theorem d_R_i_5 : decode b_R_i 5 = .ok (.bipush 6, 2) := by decide +kernel
theorem d_R_i_7 : decode b_R_i 7 = .ok (.newarray .int, 2) := by decide +kernel
theorem d_R_i_9 : decode b_R_i 9 = .ok (.putfield 9, 3) := by decide +kernel
theorem d_R_i_12 : decode b_R_i 12 = .ok (.aload_n 0, 1) := by decide +kernel
theorem d_R_i_13 : decode b_R_i 13 = .ok (.bipush 6, 2) := by decide +kernel
theorem d_R_i_15 : decode b_R_i 15 = .ok (.newarray .long, 2) := by decide +kernel
theorem d_R_i_17 : decode b_R_i 17 = .ok (.putfield 15, 3) := by decide +kernel
theorem d_R_i_20 : decode b_R_i 20 = .ok (.aload_n 0, 1) := by decide +kernel
theorem d_R_i_21 : decode b_R_i 21 = .ok (.iconst 0, 1) := by decide +kernel
theorem d_R_i_22 : decode b_R_i 22 = .ok (.putfield 19, 3) := by decide +kernel
theorem d_R_i_25 : decode b_R_i 25 = .ok (.return_, 1) := by decide +kernel
def w_R_i : List Cond := .code y_R_i b_R_i 1 none :: ([.methodLink "PartShelves$PriceRows" 3 ⟨"java/lang/Object", "<init>", "()V"⟩, .instanceMethod ⟨"java/lang/Object", "<init>", "()V"⟩, .code ⟨"java/lang/Object", "<init>", "()V"⟩ object_method_1_code 1 none, .arrayClass .int, .fieldLink "PartShelves$PriceRows" 9 "PartShelves$PriceRows" "ages" "[I", .arrayClass .long, .fieldLink "PartShelves$PriceRows" 15 "PartShelves$PriceRows" "cents" "[J", .fieldLink "PartShelves$PriceRows" 19 "PartShelves$PriceRows" "count" "I"] ++ u_ws R_R F_R 3)
set_option maxHeartbeats 4000000 in
set_option maxRecDepth 100000 in
theorem c_R_i (l : Launch) (D : va_G) (kC : Nat → ClassId) (h0 : Nat) (sz : Nat) : Met l y_R_i w_R_i ({ frames := 1, cells := 2, slots := 12, locals := 12 } : Room) (gPre cls D (tyL kC) [.ref h0] (fl [[(h0, .inr (5, [.null, .null, .int (nI 0)]))]]) sz) (va_Qv (fun (u : Nat → Nat) => u 0 = h0) (fun u t => gB cls D (tyL kC) (va_A (fl [[(h0, .inr (5, [.null, .null, .int (nI 0)]))]]) sz) (fl [(wR kC u (fun _ => nI 0) (fun _ => lN 0) 0)]) t) (va_A (fl [[(h0, .inr (5, [.null, .null, .int (nI 0)]))]]) sz)) 2 12 (va_A (fl [[(h0, .inr (5, [.null, .null, .int (nI 0)]))]]) sz) := by
  refine Met.ofW (cc := b_R_i) (maxL := 1) (ret := none) (by decide) rfl ?_
  intro p e s m args below meth c s₁ B hml hv
  obtain ⟨rfl, hsz, hP, hK, hD0⟩ := hv
  have hx := B.exec
  have hb := B.bytes
  have hr := B.returns
  have hts := atoms_spec (ws := w_R_i) B.pre
  have hown : s.vm.findClass R_R = some m.cls := findClass_of_methodNamed B.named
  have hlocks := B.notSynchronized
  have hin : meth.name = "<init>" := (name_of_methodNamed B.named B.method).1
  subst hsz
  obtain ⟨A, hAe⟩ : ∃ A : Nat → Prop, A = va_A (fl [[(h0, .inr (5, [.null, .null, .int (nI 0)]))]]) s.heap.size := ⟨_, rfl⟩
  have hD : va_D A (fl [[(h0, .inr (5, [.null, .null, .int (nI 0)]))]]) := by rw [hAe]; exact hD0.self
  have hA : ∀ q : Nat, s.heap.size ≤ q → A q := fun q h => by rw [hAe]; exact Or.inr h
  have hS : va_S A s.heap s.heap [] := va_S.rf
  have hl := lv_entry ([.ref h0]) (n := 1) (Nat.le_of_ble_eq_true rfl)
  rw [lg_entry_eq]
  generalize (lg_sl ([.ref h0]) ++ List.replicate (1 - (lg_sl ([.ref h0])).length) Slot.unset).toArray = ls at hl ⊢
  have hl : lv_has ls 1 [(0, .ref h0)] := hl
  refine lv_aload_n hx hb d_R_i_0 rfl (lv_at hl 0 rfl) ?_
  refine W.objInit hx hb hown (hts (.methodLink R_R 3 Lib.objectInit) (by decide +kernel)) (hts (.instanceMethod Lib.objectInit) (by decide +kernel)) (hts _ (List.mem_of_getElem? (i := 3) rfl)) rfl (by rw [hml]; exact hl.1) rfl d_R_i_1 (Nat.le_of_ble_eq_true rfl) (Nat.le_of_ble_eq_true rfl) ?_
  refine W.eq (g2 := F0 m 4 ls []) rfl ?_
  refine lv_aload_n hx hb d_R_i_4 rfl (lv_at hl 0 rfl) ?_
  refine lv_bipush (v := nI 6) hx hb d_R_i_5 (by decide +kernel) ?_
  refine fv_newa (atype := .int) (ty := .int) (kB := kC 0) (N := 6) (a0 := (6, .inl (fun _ => nI 0))) hx hb (hts (.arrayClass .int) (by decide +kernel)) rfl hK hP hD hS hA 0 rfl (fun _ h => by cases h) (z_int 6) (by decide +kernel) (by decide +kernel) (Nat.le_of_ble_eq_true rfl) (Nat.le_of_ble_eq_true rfl) d_R_i_7 (fun qa1 H hP hD hS => ?_)
  refine W.cs (cells' := 1) (slots' := 6) rfl rfl ?_
  have hP : va_P D cls (fl [[(h0, .inr (5, [.null, .null, .int (nI 0)]))], [(qa1, .inl (kC 0, 6, .inl (fun _ => nI 0)))]]) H := hP
  have hD : va_D A (fl [[(h0, .inr (5, [.null, .null, .int (nI 0)]))], [(qa1, .inl (kC 0, 6, .inl (fun _ => nI 0)))]]) := hD
  refine fv_putF (ci := 5) (v := .ref qa1) (ty := (.array .int)) (C := R_R) (T := F_R) (N := 3) hx hb hts (by decide +kernel) t_R t_R_ok n_R hown hK hP hD hS 0 0 rfl rfl rfl 0 (by decide) (hts (.fieldLink R_R 9 "PartShelves$PriceRows" "ages" "[I") (by decide +kernel)) (fun _ h9 => h9) rfl hin rfl (by decide +kernel) (rfl) (rfl) (Nat.le_of_ble_eq_true rfl) d_R_i_9 (fun H locs hP hD hS => ?_)
  have hP : va_P D cls (fl [[(h0, .inr (5, [.ref qa1, .null, .int (nI 0)]))], [(qa1, .inl (kC 0, 6, .inl (fun _ => nI 0)))]]) H := hP
  have hD : va_D A (fl [[(h0, .inr (5, [.ref qa1, .null, .int (nI 0)]))], [(qa1, .inl (kC 0, 6, .inl (fun _ => nI 0)))]]) := hD
  refine lv_aload_n hx hb d_R_i_12 rfl (lv_at hl 0 rfl) ?_
  refine lv_bipush (v := nI 6) hx hb d_R_i_13 (by decide +kernel) ?_
  refine fv_newa (atype := .long) (ty := .long) (kB := kC 1) (N := 6) (a0 := (6, .inr (.inl (fun _ => lN 0)))) hx hb (hts (.arrayClass .long) (by decide +kernel)) rfl hK hP hD hS hA 1 rfl (fun _ h => by cases h) (z_long 6) (by decide +kernel) (by decide +kernel) (Nat.le_of_ble_eq_true rfl) (Nat.le_of_ble_eq_true rfl) d_R_i_15 (fun qa2 H hP hD hS => ?_)
  refine W.cs (cells' := 2) (slots' := 12) rfl rfl ?_
  have hP : va_P D cls (fl [[(h0, .inr (5, [.ref qa1, .null, .int (nI 0)]))], [(qa1, .inl (kC 0, 6, .inl (fun _ => nI 0)))], [(qa2, .inl (kC 1, 6, .inr (.inl (fun _ => lN 0))))]]) H := hP
  have hD : va_D A (fl [[(h0, .inr (5, [.ref qa1, .null, .int (nI 0)]))], [(qa1, .inl (kC 0, 6, .inl (fun _ => nI 0)))], [(qa2, .inl (kC 1, 6, .inr (.inl (fun _ => lN 0))))]]) := hD
  refine fv_putF (ci := 5) (v := .ref qa2) (ty := (.array .long)) (C := R_R) (T := F_R) (N := 3) hx hb hts (by decide +kernel) t_R t_R_ok n_R hown hK hP hD hS 0 0 rfl rfl rfl 1 (by decide) (hts (.fieldLink R_R 15 "PartShelves$PriceRows" "cents" "[J") (by decide +kernel)) (fun _ h9 => h9) rfl hin rfl (by decide +kernel) (rfl) (rfl) (Nat.le_of_ble_eq_true rfl) d_R_i_17 (fun H locs hP hD hS => ?_)
  have hP : va_P D cls (fl [[(h0, .inr (5, [.ref qa1, .ref qa2, .int (nI 0)]))], [(qa1, .inl (kC 0, 6, .inl (fun _ => nI 0)))], [(qa2, .inl (kC 1, 6, .inr (.inl (fun _ => lN 0))))]]) H := hP
  have hD : va_D A (fl [[(h0, .inr (5, [.ref qa1, .ref qa2, .int (nI 0)]))], [(qa1, .inl (kC 0, 6, .inl (fun _ => nI 0)))], [(qa2, .inl (kC 1, 6, .inr (.inl (fun _ => lN 0))))]]) := hD
  refine lv_aload_n hx hb d_R_i_20 rfl (lv_at hl 0 rfl) ?_
  refine lv_iconst (v := nI 0) hx hb d_R_i_21 (by decide) ?_
  refine fv_put (ci := 5) (v := .int (nI 0)) (ty := (.int)) (C := R_R) (T := F_R) (N := 3) hx hb hts (by decide +kernel) t_R t_R_ok n_R hown hK hP hD hS 0 0 rfl rfl rfl 2 (by decide) (hts (.fieldLink R_R 19 "PartShelves$PriceRows" "count" "I") (by decide +kernel)) (fun _ h9 => h9) rfl (by decide +kernel) (rfl) (rfl) (Nat.le_of_ble_eq_true rfl) d_R_i_22 (fun H locs hP hD hS => ?_)
  have hP : va_P D cls (fl [[(h0, .inr (5, [.ref qa1, .ref qa2, .int (nI 0)]))], [(qa1, .inl (kC 0, 6, .inl (fun _ => nI 0)))], [(qa2, .inl (kC 1, 6, .inr (.inl (fun _ => lN 0))))]]) H := hP
  have hD : va_D A (fl [[(h0, .inr (5, [.ref qa1, .ref qa2, .int (nI 0)]))], [(qa1, .inl (kC 0, 6, .inl (fun _ => nI 0)))], [(qa2, .inl (kC 1, 6, .inr (.inl (fun _ => lN 0))))]]) := hD
  exact W.vret hx hb hr (fun t ht hW => by subst hAe; exact ⟨⟨(fun i => [h0, qa1, qa2].getD i 0), rfl, rfl, by rw [ht]; exact hP, va_K.moved hW.alike hK, hD⟩, hS.F ht⟩) (by subst hAe; exact hS.2.2) d_R_i_25

abbrev b_M_i : ByteArray := prog_4_method_1_code
def y_M_i : MethodName := ⟨"PartShelves$Matching", "<init>", "()V"⟩
theorem d_M_i_0 : decode b_M_i 0 = .ok (.aload_n 0, 1) := by decide +kernel
theorem d_M_i_1 : decode b_M_i 1 = .ok (.invokespecial 3, 3) := by decide +kernel
theorem d_M_i_4 : decode b_M_i 4 = .ok (.aload_n 0, 1) := by decide +kernel
theorem d_M_i_5 : decode b_M_i 5 = .ok (.bipush 64, 2) := by decide +kernel
theorem d_M_i_7 : decode b_M_i 7 = .ok (.newarray .long, 2) := by decide +kernel
theorem d_M_i_9 : decode b_M_i 9 = .ok (.putfield 9, 3) := by decide +kernel
theorem d_M_i_12 : decode b_M_i 12 = .ok (.aload_n 0, 1) := by decide +kernel
theorem d_M_i_13 : decode b_M_i 13 = .ok (.sipush 256, 3) := by decide +kernel
theorem d_M_i_16 : decode b_M_i 16 = .ok (.newarray .long, 2) := by decide +kernel
theorem d_M_i_18 : decode b_M_i 18 = .ok (.putfield 15, 3) := by decide +kernel
theorem d_M_i_21 : decode b_M_i 21 = .ok (.aload_n 0, 1) := by decide +kernel
theorem d_M_i_22 : decode b_M_i 22 = .ok (.bipush 8, 2) := by decide +kernel
theorem d_M_i_24 : decode b_M_i 24 = .ok (.newarray .int, 2) := by decide +kernel
theorem d_M_i_26 : decode b_M_i 26 = .ok (.putfield 18, 3) := by decide +kernel
theorem d_M_i_29 : decode b_M_i 29 = .ok (.aload_n 0, 1) := by decide +kernel
theorem d_M_i_30 : decode b_M_i 30 = .ok (.bipush 8, 2) := by decide +kernel
theorem d_M_i_32 : decode b_M_i 32 = .ok (.newarray .long, 2) := by decide +kernel
theorem d_M_i_34 : decode b_M_i 34 = .ok (.putfield 22, 3) := by decide +kernel
theorem d_M_i_37 : decode b_M_i 37 = .ok (.aload_n 0, 1) := by decide +kernel
theorem d_M_i_38 : decode b_M_i 38 = .ok (.iconst 0, 1) := by decide +kernel
theorem d_M_i_39 : decode b_M_i 39 = .ok (.putfield 25, 3) := by decide +kernel
theorem d_M_i_42 : decode b_M_i 42 = .ok (.aload_n 0, 1) := by decide +kernel
theorem d_M_i_43 : decode b_M_i 43 = .ok (.bipush 8, 2) := by decide +kernel
theorem d_M_i_45 : decode b_M_i 45 = .ok (.newarray .int, 2) := by decide +kernel
theorem d_M_i_47 : decode b_M_i 47 = .ok (.putfield 29, 3) := by decide +kernel
theorem d_M_i_50 : decode b_M_i 50 = .ok (.aload_n 0, 1) := by decide +kernel
theorem d_M_i_51 : decode b_M_i 51 = .ok (.bipush 8, 2) := by decide +kernel
theorem d_M_i_53 : decode b_M_i 53 = .ok (.newarray .int, 2) := by decide +kernel
theorem d_M_i_55 : decode b_M_i 55 = .ok (.putfield 32, 3) := by decide +kernel
theorem d_M_i_58 : decode b_M_i 58 = .ok (.aload_n 0, 1) := by decide +kernel
theorem d_M_i_59 : decode b_M_i 59 = .ok (.bipush 8, 2) := by decide +kernel
theorem d_M_i_61 : decode b_M_i 61 = .ok (.newarray .long, 2) := by decide +kernel
theorem d_M_i_63 : decode b_M_i 63 = .ok (.putfield 35, 3) := by decide +kernel
theorem d_M_i_66 : decode b_M_i 66 = .ok (.aload_n 0, 1) := by decide +kernel
theorem d_M_i_67 : decode b_M_i 67 = .ok (.bipush 8, 2) := by decide +kernel
theorem d_M_i_69 : decode b_M_i 69 = .ok (.newarray .long, 2) := by decide +kernel
theorem d_M_i_71 : decode b_M_i 71 = .ok (.putfield 38, 3) := by decide +kernel
theorem d_M_i_74 : decode b_M_i 74 = .ok (.aload_n 0, 1) := by decide +kernel
theorem d_M_i_75 : decode b_M_i 75 = .ok (.iconst 0, 1) := by decide +kernel
theorem d_M_i_76 : decode b_M_i 76 = .ok (.putfield 41, 3) := by decide +kernel
theorem d_M_i_79 : decode b_M_i 79 = .ok (.aload_n 0, 1) := by decide +kernel
theorem d_M_i_80 : decode b_M_i 80 = .ok (.iconst 0, 1) := by decide +kernel
theorem d_M_i_81 : decode b_M_i 81 = .ok (.putfield 44, 3) := by decide +kernel
theorem d_M_i_84 : decode b_M_i 84 = .ok (.aload_n 0, 1) := by decide +kernel
theorem d_M_i_85 : decode b_M_i 85 = .ok (.iconst 0, 1) := by decide +kernel
theorem d_M_i_86 : decode b_M_i 86 = .ok (.putfield 47, 3) := by decide +kernel
theorem d_M_i_89 : decode b_M_i 89 = .ok (.aload_n 0, 1) := by decide +kernel
theorem d_M_i_90 : decode b_M_i 90 = .ok (.ldc2_w 50, 3) := by decide +kernel
theorem d_M_i_93 : decode b_M_i 93 = .ok (.putfield 52, 3) := by decide +kernel
theorem d_M_i_96 : decode b_M_i 96 = .ok (.return_, 1) := by decide +kernel
def w_M_i : List Cond := .code y_M_i b_M_i 1 none :: ([.methodLink "PartShelves$Matching" 3 ⟨"java/lang/Object", "<init>", "()V"⟩, .instanceMethod ⟨"java/lang/Object", "<init>", "()V"⟩, .code ⟨"java/lang/Object", "<init>", "()V"⟩ object_method_1_code 1 none, .arrayClass .long, .fieldLink "PartShelves$Matching" 9 "PartShelves$Matching" "shares" "[J", .fieldLink "PartShelves$Matching" 15 "PartShelves$Matching" "best" "[J", .arrayClass .int, .fieldLink "PartShelves$Matching" 18 "PartShelves$Matching" "optionBits" "[I", .fieldLink "PartShelves$Matching" 22 "PartShelves$Matching" "optionShares" "[J", .fieldLink "PartShelves$Matching" 25 "PartShelves$Matching" "optionCount" "I", .fieldLink "PartShelves$Matching" 29 "PartShelves$Matching" "askByRank" "[I", .fieldLink "PartShelves$Matching" 32 "PartShelves$Matching" "given" "[I", .fieldLink "PartShelves$Matching" 35 "PartShelves$Matching" "partGains" "[J", .fieldLink "PartShelves$Matching" 38 "PartShelves$Matching" "askGains" "[J", .fieldLink "PartShelves$Matching" 41 "PartShelves$Matching" "partCount" "I", .fieldLink "PartShelves$Matching" 44 "PartShelves$Matching" "askCount" "I", .fieldLink "PartShelves$Matching" 47 "PartShelves$Matching" "pairCount" "I", .constantLong "PartShelves$Matching" 50 (-1), .fieldLink "PartShelves$Matching" 52 "PartShelves$Matching" "total" "J"] ++ u_ws R_M F_M 13)
set_option maxHeartbeats 4000000 in
set_option maxRecDepth 100000 in
theorem c_M_i (l : Launch) (D : va_G) (kC : Nat → ClassId) (h0 : Nat) (sz : Nat) : Met l y_M_i w_M_i ({ frames := 1, cells := 8, slots := 368, locals := 12 } : Room) (gPre cls D (tyL kC) [.ref h0] (fl [[(h0, .inr (3, [.null, .null, .null, .null, .int (nI 0), .null, .null, .null, .null, .int (nI 0), .int (nI 0), .int (nI 0), .long (lN 0)]))]]) sz) (va_Qv (fun (u : Nat → Nat) => u 0 = h0) (fun u t => gB cls D (tyL kC) (va_A (fl [[(h0, .inr (3, [.null, .null, .null, .null, .int (nI 0), .null, .null, .null, .null, .int (nI 0), .int (nI 0), .int (nI 0), .long (lN 0)]))]]) sz) (fl [(wM kC u (fun _ => lN 0) (fun _ => lN 0) (fun _ => nI 0) (fun _ => lN 0) 0 (fun _ => nI 0) (fun _ => nI 0) (fun _ => lN 0) (fun _ => lN 0) 0 0 0 (-1))]) t) (va_A (fl [[(h0, .inr (3, [.null, .null, .null, .null, .int (nI 0), .null, .null, .null, .null, .int (nI 0), .int (nI 0), .int (nI 0), .long (lN 0)]))]]) sz)) 8 368 (va_A (fl [[(h0, .inr (3, [.null, .null, .null, .null, .int (nI 0), .null, .null, .null, .null, .int (nI 0), .int (nI 0), .int (nI 0), .long (lN 0)]))]]) sz) := by
  refine Met.ofW (cc := b_M_i) (maxL := 1) (ret := none) (by decide) rfl ?_
  intro p e s m args below meth c s₁ B hml hv
  obtain ⟨rfl, hsz, hP, hK, hD0⟩ := hv
  have hx := B.exec
  have hb := B.bytes
  have hr := B.returns
  have hts := atoms_spec (ws := w_M_i) B.pre
  have hown : s.vm.findClass R_M = some m.cls := findClass_of_methodNamed B.named
  have hlocks := B.notSynchronized
  have hin : meth.name = "<init>" := (name_of_methodNamed B.named B.method).1
  subst hsz
  obtain ⟨A, hAe⟩ : ∃ A : Nat → Prop, A = va_A (fl [[(h0, .inr (3, [.null, .null, .null, .null, .int (nI 0), .null, .null, .null, .null, .int (nI 0), .int (nI 0), .int (nI 0), .long (lN 0)]))]]) s.heap.size := ⟨_, rfl⟩
  have hD : va_D A (fl [[(h0, .inr (3, [.null, .null, .null, .null, .int (nI 0), .null, .null, .null, .null, .int (nI 0), .int (nI 0), .int (nI 0), .long (lN 0)]))]]) := by rw [hAe]; exact hD0.self
  have hA : ∀ q : Nat, s.heap.size ≤ q → A q := fun q h => by rw [hAe]; exact Or.inr h
  have hS : va_S A s.heap s.heap [] := va_S.rf
  have hl := lv_entry ([.ref h0]) (n := 1) (Nat.le_of_ble_eq_true rfl)
  rw [lg_entry_eq]
  generalize (lg_sl ([.ref h0]) ++ List.replicate (1 - (lg_sl ([.ref h0])).length) Slot.unset).toArray = ls at hl ⊢
  have hl : lv_has ls 1 [(0, .ref h0)] := hl
  refine lv_aload_n hx hb d_M_i_0 rfl (lv_at hl 0 rfl) ?_
  refine W.objInit hx hb hown (hts (.methodLink R_M 3 Lib.objectInit) (by decide +kernel)) (hts (.instanceMethod Lib.objectInit) (by decide +kernel)) (hts _ (List.mem_of_getElem? (i := 3) rfl)) rfl (by rw [hml]; exact hl.1) rfl d_M_i_1 (Nat.le_of_ble_eq_true rfl) (Nat.le_of_ble_eq_true rfl) ?_
  refine W.eq (g2 := F0 m 4 ls []) rfl ?_
  refine lv_aload_n hx hb d_M_i_4 rfl (lv_at hl 0 rfl) ?_
  refine lv_bipush (v := nI 64) hx hb d_M_i_5 (by decide +kernel) ?_
  refine fv_newa (atype := .long) (ty := .long) (kB := kC 1) (N := 64) (a0 := (64, .inr (.inl (fun _ => lN 0)))) hx hb (hts (.arrayClass .long) (by decide +kernel)) rfl hK hP hD hS hA 1 rfl (fun _ h => by cases h) (z_long 64) (by decide +kernel) (by decide +kernel) (Nat.le_of_ble_eq_true rfl) (Nat.le_of_ble_eq_true rfl) d_M_i_7 (fun qa1 H hP hD hS => ?_)
  refine W.cs (cells' := 1) (slots' := 64) rfl rfl ?_
  have hP : va_P D cls (fl [[(h0, .inr (3, [.null, .null, .null, .null, .int (nI 0), .null, .null, .null, .null, .int (nI 0), .int (nI 0), .int (nI 0), .long (lN 0)]))], [(qa1, .inl (kC 1, 64, .inr (.inl (fun _ => lN 0))))]]) H := hP
  have hD : va_D A (fl [[(h0, .inr (3, [.null, .null, .null, .null, .int (nI 0), .null, .null, .null, .null, .int (nI 0), .int (nI 0), .int (nI 0), .long (lN 0)]))], [(qa1, .inl (kC 1, 64, .inr (.inl (fun _ => lN 0))))]]) := hD
  refine fv_putF (ci := 3) (v := .ref qa1) (ty := (.array .long)) (C := R_M) (T := F_M) (N := 13) hx hb hts (by decide +kernel) t_M t_M_ok n_M hown hK hP hD hS 0 0 rfl rfl rfl 0 (by decide) (hts (.fieldLink R_M 9 "PartShelves$Matching" "shares" "[J") (by decide +kernel)) (fun _ h9 => h9) rfl hin rfl (by decide +kernel) (rfl) (rfl) (Nat.le_of_ble_eq_true rfl) d_M_i_9 (fun H locs hP hD hS => ?_)
  have hP : va_P D cls (fl [[(h0, .inr (3, [.ref qa1, .null, .null, .null, .int (nI 0), .null, .null, .null, .null, .int (nI 0), .int (nI 0), .int (nI 0), .long (lN 0)]))], [(qa1, .inl (kC 1, 64, .inr (.inl (fun _ => lN 0))))]]) H := hP
  have hD : va_D A (fl [[(h0, .inr (3, [.ref qa1, .null, .null, .null, .int (nI 0), .null, .null, .null, .null, .int (nI 0), .int (nI 0), .int (nI 0), .long (lN 0)]))], [(qa1, .inl (kC 1, 64, .inr (.inl (fun _ => lN 0))))]]) := hD
  refine lv_aload_n hx hb d_M_i_12 rfl (lv_at hl 0 rfl) ?_
  refine lv_sipush (v := nI 256) hx hb d_M_i_13 (by decide +kernel) ?_
  refine fv_newa (atype := .long) (ty := .long) (kB := kC 1) (N := 256) (a0 := (256, .inr (.inl (fun _ => lN 0)))) hx hb (hts (.arrayClass .long) (by decide +kernel)) rfl hK hP hD hS hA 1 rfl (fun _ h => by cases h) (z_long 256) (by decide +kernel) (by decide +kernel) (Nat.le_of_ble_eq_true rfl) (Nat.le_of_ble_eq_true rfl) d_M_i_16 (fun qa2 H hP hD hS => ?_)
  refine W.cs (cells' := 2) (slots' := 320) rfl rfl ?_
  have hP : va_P D cls (fl [[(h0, .inr (3, [.ref qa1, .null, .null, .null, .int (nI 0), .null, .null, .null, .null, .int (nI 0), .int (nI 0), .int (nI 0), .long (lN 0)]))], [(qa1, .inl (kC 1, 64, .inr (.inl (fun _ => lN 0))))], [(qa2, .inl (kC 1, 256, .inr (.inl (fun _ => lN 0))))]]) H := hP
  have hD : va_D A (fl [[(h0, .inr (3, [.ref qa1, .null, .null, .null, .int (nI 0), .null, .null, .null, .null, .int (nI 0), .int (nI 0), .int (nI 0), .long (lN 0)]))], [(qa1, .inl (kC 1, 64, .inr (.inl (fun _ => lN 0))))], [(qa2, .inl (kC 1, 256, .inr (.inl (fun _ => lN 0))))]]) := hD
  refine fv_putF (ci := 3) (v := .ref qa2) (ty := (.array .long)) (C := R_M) (T := F_M) (N := 13) hx hb hts (by decide +kernel) t_M t_M_ok n_M hown hK hP hD hS 0 0 rfl rfl rfl 1 (by decide) (hts (.fieldLink R_M 15 "PartShelves$Matching" "best" "[J") (by decide +kernel)) (fun _ h9 => h9) rfl hin rfl (by decide +kernel) (rfl) (rfl) (Nat.le_of_ble_eq_true rfl) d_M_i_18 (fun H locs hP hD hS => ?_)
  have hP : va_P D cls (fl [[(h0, .inr (3, [.ref qa1, .ref qa2, .null, .null, .int (nI 0), .null, .null, .null, .null, .int (nI 0), .int (nI 0), .int (nI 0), .long (lN 0)]))], [(qa1, .inl (kC 1, 64, .inr (.inl (fun _ => lN 0))))], [(qa2, .inl (kC 1, 256, .inr (.inl (fun _ => lN 0))))]]) H := hP
  have hD : va_D A (fl [[(h0, .inr (3, [.ref qa1, .ref qa2, .null, .null, .int (nI 0), .null, .null, .null, .null, .int (nI 0), .int (nI 0), .int (nI 0), .long (lN 0)]))], [(qa1, .inl (kC 1, 64, .inr (.inl (fun _ => lN 0))))], [(qa2, .inl (kC 1, 256, .inr (.inl (fun _ => lN 0))))]]) := hD
  refine lv_aload_n hx hb d_M_i_21 rfl (lv_at hl 0 rfl) ?_
  refine lv_bipush (v := nI 8) hx hb d_M_i_22 (by decide +kernel) ?_
  refine fv_newa (atype := .int) (ty := .int) (kB := kC 0) (N := 8) (a0 := (8, .inl (fun _ => nI 0))) hx hb (hts (.arrayClass .int) (by decide +kernel)) rfl hK hP hD hS hA 0 rfl (fun _ h => by cases h) (z_int 8) (by decide +kernel) (by decide +kernel) (Nat.le_of_ble_eq_true rfl) (Nat.le_of_ble_eq_true rfl) d_M_i_24 (fun qa3 H hP hD hS => ?_)
  refine W.cs (cells' := 3) (slots' := 328) rfl rfl ?_
  have hP : va_P D cls (fl [[(h0, .inr (3, [.ref qa1, .ref qa2, .null, .null, .int (nI 0), .null, .null, .null, .null, .int (nI 0), .int (nI 0), .int (nI 0), .long (lN 0)]))], [(qa1, .inl (kC 1, 64, .inr (.inl (fun _ => lN 0))))], [(qa2, .inl (kC 1, 256, .inr (.inl (fun _ => lN 0))))], [(qa3, .inl (kC 0, 8, .inl (fun _ => nI 0)))]]) H := hP
  have hD : va_D A (fl [[(h0, .inr (3, [.ref qa1, .ref qa2, .null, .null, .int (nI 0), .null, .null, .null, .null, .int (nI 0), .int (nI 0), .int (nI 0), .long (lN 0)]))], [(qa1, .inl (kC 1, 64, .inr (.inl (fun _ => lN 0))))], [(qa2, .inl (kC 1, 256, .inr (.inl (fun _ => lN 0))))], [(qa3, .inl (kC 0, 8, .inl (fun _ => nI 0)))]]) := hD
  refine fv_putF (ci := 3) (v := .ref qa3) (ty := (.array .int)) (C := R_M) (T := F_M) (N := 13) hx hb hts (by decide +kernel) t_M t_M_ok n_M hown hK hP hD hS 0 0 rfl rfl rfl 2 (by decide) (hts (.fieldLink R_M 18 "PartShelves$Matching" "optionBits" "[I") (by decide +kernel)) (fun _ h9 => h9) rfl hin rfl (by decide +kernel) (rfl) (rfl) (Nat.le_of_ble_eq_true rfl) d_M_i_26 (fun H locs hP hD hS => ?_)
  have hP : va_P D cls (fl [[(h0, .inr (3, [.ref qa1, .ref qa2, .ref qa3, .null, .int (nI 0), .null, .null, .null, .null, .int (nI 0), .int (nI 0), .int (nI 0), .long (lN 0)]))], [(qa1, .inl (kC 1, 64, .inr (.inl (fun _ => lN 0))))], [(qa2, .inl (kC 1, 256, .inr (.inl (fun _ => lN 0))))], [(qa3, .inl (kC 0, 8, .inl (fun _ => nI 0)))]]) H := hP
  have hD : va_D A (fl [[(h0, .inr (3, [.ref qa1, .ref qa2, .ref qa3, .null, .int (nI 0), .null, .null, .null, .null, .int (nI 0), .int (nI 0), .int (nI 0), .long (lN 0)]))], [(qa1, .inl (kC 1, 64, .inr (.inl (fun _ => lN 0))))], [(qa2, .inl (kC 1, 256, .inr (.inl (fun _ => lN 0))))], [(qa3, .inl (kC 0, 8, .inl (fun _ => nI 0)))]]) := hD
  refine lv_aload_n hx hb d_M_i_29 rfl (lv_at hl 0 rfl) ?_
  refine lv_bipush (v := nI 8) hx hb d_M_i_30 (by decide +kernel) ?_
  refine fv_newa (atype := .long) (ty := .long) (kB := kC 1) (N := 8) (a0 := (8, .inr (.inl (fun _ => lN 0)))) hx hb (hts (.arrayClass .long) (by decide +kernel)) rfl hK hP hD hS hA 1 rfl (fun _ h => by cases h) (z_long 8) (by decide +kernel) (by decide +kernel) (Nat.le_of_ble_eq_true rfl) (Nat.le_of_ble_eq_true rfl) d_M_i_32 (fun qa4 H hP hD hS => ?_)
  refine W.cs (cells' := 4) (slots' := 336) rfl rfl ?_
  have hP : va_P D cls (fl [[(h0, .inr (3, [.ref qa1, .ref qa2, .ref qa3, .null, .int (nI 0), .null, .null, .null, .null, .int (nI 0), .int (nI 0), .int (nI 0), .long (lN 0)]))], [(qa1, .inl (kC 1, 64, .inr (.inl (fun _ => lN 0))))], [(qa2, .inl (kC 1, 256, .inr (.inl (fun _ => lN 0))))], [(qa3, .inl (kC 0, 8, .inl (fun _ => nI 0)))], [(qa4, .inl (kC 1, 8, .inr (.inl (fun _ => lN 0))))]]) H := hP
  have hD : va_D A (fl [[(h0, .inr (3, [.ref qa1, .ref qa2, .ref qa3, .null, .int (nI 0), .null, .null, .null, .null, .int (nI 0), .int (nI 0), .int (nI 0), .long (lN 0)]))], [(qa1, .inl (kC 1, 64, .inr (.inl (fun _ => lN 0))))], [(qa2, .inl (kC 1, 256, .inr (.inl (fun _ => lN 0))))], [(qa3, .inl (kC 0, 8, .inl (fun _ => nI 0)))], [(qa4, .inl (kC 1, 8, .inr (.inl (fun _ => lN 0))))]]) := hD
  refine fv_putF (ci := 3) (v := .ref qa4) (ty := (.array .long)) (C := R_M) (T := F_M) (N := 13) hx hb hts (by decide +kernel) t_M t_M_ok n_M hown hK hP hD hS 0 0 rfl rfl rfl 3 (by decide) (hts (.fieldLink R_M 22 "PartShelves$Matching" "optionShares" "[J") (by decide +kernel)) (fun _ h9 => h9) rfl hin rfl (by decide +kernel) (rfl) (rfl) (Nat.le_of_ble_eq_true rfl) d_M_i_34 (fun H locs hP hD hS => ?_)
  have hP : va_P D cls (fl [[(h0, .inr (3, [.ref qa1, .ref qa2, .ref qa3, .ref qa4, .int (nI 0), .null, .null, .null, .null, .int (nI 0), .int (nI 0), .int (nI 0), .long (lN 0)]))], [(qa1, .inl (kC 1, 64, .inr (.inl (fun _ => lN 0))))], [(qa2, .inl (kC 1, 256, .inr (.inl (fun _ => lN 0))))], [(qa3, .inl (kC 0, 8, .inl (fun _ => nI 0)))], [(qa4, .inl (kC 1, 8, .inr (.inl (fun _ => lN 0))))]]) H := hP
  have hD : va_D A (fl [[(h0, .inr (3, [.ref qa1, .ref qa2, .ref qa3, .ref qa4, .int (nI 0), .null, .null, .null, .null, .int (nI 0), .int (nI 0), .int (nI 0), .long (lN 0)]))], [(qa1, .inl (kC 1, 64, .inr (.inl (fun _ => lN 0))))], [(qa2, .inl (kC 1, 256, .inr (.inl (fun _ => lN 0))))], [(qa3, .inl (kC 0, 8, .inl (fun _ => nI 0)))], [(qa4, .inl (kC 1, 8, .inr (.inl (fun _ => lN 0))))]]) := hD
  refine lv_aload_n hx hb d_M_i_37 rfl (lv_at hl 0 rfl) ?_
  refine lv_iconst (v := nI 0) hx hb d_M_i_38 (by decide) ?_
  refine fv_put (ci := 3) (v := .int (nI 0)) (ty := (.int)) (C := R_M) (T := F_M) (N := 13) hx hb hts (by decide +kernel) t_M t_M_ok n_M hown hK hP hD hS 0 0 rfl rfl rfl 4 (by decide) (hts (.fieldLink R_M 25 "PartShelves$Matching" "optionCount" "I") (by decide +kernel)) (fun _ h9 => h9) rfl (by decide +kernel) (rfl) (rfl) (Nat.le_of_ble_eq_true rfl) d_M_i_39 (fun H locs hP hD hS => ?_)
  have hP : va_P D cls (fl [[(h0, .inr (3, [.ref qa1, .ref qa2, .ref qa3, .ref qa4, .int (nI 0), .null, .null, .null, .null, .int (nI 0), .int (nI 0), .int (nI 0), .long (lN 0)]))], [(qa1, .inl (kC 1, 64, .inr (.inl (fun _ => lN 0))))], [(qa2, .inl (kC 1, 256, .inr (.inl (fun _ => lN 0))))], [(qa3, .inl (kC 0, 8, .inl (fun _ => nI 0)))], [(qa4, .inl (kC 1, 8, .inr (.inl (fun _ => lN 0))))]]) H := hP
  have hD : va_D A (fl [[(h0, .inr (3, [.ref qa1, .ref qa2, .ref qa3, .ref qa4, .int (nI 0), .null, .null, .null, .null, .int (nI 0), .int (nI 0), .int (nI 0), .long (lN 0)]))], [(qa1, .inl (kC 1, 64, .inr (.inl (fun _ => lN 0))))], [(qa2, .inl (kC 1, 256, .inr (.inl (fun _ => lN 0))))], [(qa3, .inl (kC 0, 8, .inl (fun _ => nI 0)))], [(qa4, .inl (kC 1, 8, .inr (.inl (fun _ => lN 0))))]]) := hD
  refine lv_aload_n hx hb d_M_i_42 rfl (lv_at hl 0 rfl) ?_
  refine lv_bipush (v := nI 8) hx hb d_M_i_43 (by decide +kernel) ?_
  refine fv_newa (atype := .int) (ty := .int) (kB := kC 0) (N := 8) (a0 := (8, .inl (fun _ => nI 0))) hx hb (hts (.arrayClass .int) (by decide +kernel)) rfl hK hP hD hS hA 0 rfl (fun _ h => by cases h) (z_int 8) (by decide +kernel) (by decide +kernel) (Nat.le_of_ble_eq_true rfl) (Nat.le_of_ble_eq_true rfl) d_M_i_45 (fun qa5 H hP hD hS => ?_)
  refine W.cs (cells' := 5) (slots' := 344) rfl rfl ?_
  have hP : va_P D cls (fl [[(h0, .inr (3, [.ref qa1, .ref qa2, .ref qa3, .ref qa4, .int (nI 0), .null, .null, .null, .null, .int (nI 0), .int (nI 0), .int (nI 0), .long (lN 0)]))], [(qa1, .inl (kC 1, 64, .inr (.inl (fun _ => lN 0))))], [(qa2, .inl (kC 1, 256, .inr (.inl (fun _ => lN 0))))], [(qa3, .inl (kC 0, 8, .inl (fun _ => nI 0)))], [(qa4, .inl (kC 1, 8, .inr (.inl (fun _ => lN 0))))], [(qa5, .inl (kC 0, 8, .inl (fun _ => nI 0)))]]) H := hP
  have hD : va_D A (fl [[(h0, .inr (3, [.ref qa1, .ref qa2, .ref qa3, .ref qa4, .int (nI 0), .null, .null, .null, .null, .int (nI 0), .int (nI 0), .int (nI 0), .long (lN 0)]))], [(qa1, .inl (kC 1, 64, .inr (.inl (fun _ => lN 0))))], [(qa2, .inl (kC 1, 256, .inr (.inl (fun _ => lN 0))))], [(qa3, .inl (kC 0, 8, .inl (fun _ => nI 0)))], [(qa4, .inl (kC 1, 8, .inr (.inl (fun _ => lN 0))))], [(qa5, .inl (kC 0, 8, .inl (fun _ => nI 0)))]]) := hD
  refine fv_putF (ci := 3) (v := .ref qa5) (ty := (.array .int)) (C := R_M) (T := F_M) (N := 13) hx hb hts (by decide +kernel) t_M t_M_ok n_M hown hK hP hD hS 0 0 rfl rfl rfl 5 (by decide) (hts (.fieldLink R_M 29 "PartShelves$Matching" "askByRank" "[I") (by decide +kernel)) (fun _ h9 => h9) rfl hin rfl (by decide +kernel) (rfl) (rfl) (Nat.le_of_ble_eq_true rfl) d_M_i_47 (fun H locs hP hD hS => ?_)
  have hP : va_P D cls (fl [[(h0, .inr (3, [.ref qa1, .ref qa2, .ref qa3, .ref qa4, .int (nI 0), .ref qa5, .null, .null, .null, .int (nI 0), .int (nI 0), .int (nI 0), .long (lN 0)]))], [(qa1, .inl (kC 1, 64, .inr (.inl (fun _ => lN 0))))], [(qa2, .inl (kC 1, 256, .inr (.inl (fun _ => lN 0))))], [(qa3, .inl (kC 0, 8, .inl (fun _ => nI 0)))], [(qa4, .inl (kC 1, 8, .inr (.inl (fun _ => lN 0))))], [(qa5, .inl (kC 0, 8, .inl (fun _ => nI 0)))]]) H := hP
  have hD : va_D A (fl [[(h0, .inr (3, [.ref qa1, .ref qa2, .ref qa3, .ref qa4, .int (nI 0), .ref qa5, .null, .null, .null, .int (nI 0), .int (nI 0), .int (nI 0), .long (lN 0)]))], [(qa1, .inl (kC 1, 64, .inr (.inl (fun _ => lN 0))))], [(qa2, .inl (kC 1, 256, .inr (.inl (fun _ => lN 0))))], [(qa3, .inl (kC 0, 8, .inl (fun _ => nI 0)))], [(qa4, .inl (kC 1, 8, .inr (.inl (fun _ => lN 0))))], [(qa5, .inl (kC 0, 8, .inl (fun _ => nI 0)))]]) := hD
  refine lv_aload_n hx hb d_M_i_50 rfl (lv_at hl 0 rfl) ?_
  refine lv_bipush (v := nI 8) hx hb d_M_i_51 (by decide +kernel) ?_
  refine fv_newa (atype := .int) (ty := .int) (kB := kC 0) (N := 8) (a0 := (8, .inl (fun _ => nI 0))) hx hb (hts (.arrayClass .int) (by decide +kernel)) rfl hK hP hD hS hA 0 rfl (fun _ h => by cases h) (z_int 8) (by decide +kernel) (by decide +kernel) (Nat.le_of_ble_eq_true rfl) (Nat.le_of_ble_eq_true rfl) d_M_i_53 (fun qa6 H hP hD hS => ?_)
  refine W.cs (cells' := 6) (slots' := 352) rfl rfl ?_
  have hP : va_P D cls (fl [[(h0, .inr (3, [.ref qa1, .ref qa2, .ref qa3, .ref qa4, .int (nI 0), .ref qa5, .null, .null, .null, .int (nI 0), .int (nI 0), .int (nI 0), .long (lN 0)]))], [(qa1, .inl (kC 1, 64, .inr (.inl (fun _ => lN 0))))], [(qa2, .inl (kC 1, 256, .inr (.inl (fun _ => lN 0))))], [(qa3, .inl (kC 0, 8, .inl (fun _ => nI 0)))], [(qa4, .inl (kC 1, 8, .inr (.inl (fun _ => lN 0))))], [(qa5, .inl (kC 0, 8, .inl (fun _ => nI 0)))], [(qa6, .inl (kC 0, 8, .inl (fun _ => nI 0)))]]) H := hP
  have hD : va_D A (fl [[(h0, .inr (3, [.ref qa1, .ref qa2, .ref qa3, .ref qa4, .int (nI 0), .ref qa5, .null, .null, .null, .int (nI 0), .int (nI 0), .int (nI 0), .long (lN 0)]))], [(qa1, .inl (kC 1, 64, .inr (.inl (fun _ => lN 0))))], [(qa2, .inl (kC 1, 256, .inr (.inl (fun _ => lN 0))))], [(qa3, .inl (kC 0, 8, .inl (fun _ => nI 0)))], [(qa4, .inl (kC 1, 8, .inr (.inl (fun _ => lN 0))))], [(qa5, .inl (kC 0, 8, .inl (fun _ => nI 0)))], [(qa6, .inl (kC 0, 8, .inl (fun _ => nI 0)))]]) := hD
  refine fv_putF (ci := 3) (v := .ref qa6) (ty := (.array .int)) (C := R_M) (T := F_M) (N := 13) hx hb hts (by decide +kernel) t_M t_M_ok n_M hown hK hP hD hS 0 0 rfl rfl rfl 6 (by decide) (hts (.fieldLink R_M 32 "PartShelves$Matching" "given" "[I") (by decide +kernel)) (fun _ h9 => h9) rfl hin rfl (by decide +kernel) (rfl) (rfl) (Nat.le_of_ble_eq_true rfl) d_M_i_55 (fun H locs hP hD hS => ?_)
  have hP : va_P D cls (fl [[(h0, .inr (3, [.ref qa1, .ref qa2, .ref qa3, .ref qa4, .int (nI 0), .ref qa5, .ref qa6, .null, .null, .int (nI 0), .int (nI 0), .int (nI 0), .long (lN 0)]))], [(qa1, .inl (kC 1, 64, .inr (.inl (fun _ => lN 0))))], [(qa2, .inl (kC 1, 256, .inr (.inl (fun _ => lN 0))))], [(qa3, .inl (kC 0, 8, .inl (fun _ => nI 0)))], [(qa4, .inl (kC 1, 8, .inr (.inl (fun _ => lN 0))))], [(qa5, .inl (kC 0, 8, .inl (fun _ => nI 0)))], [(qa6, .inl (kC 0, 8, .inl (fun _ => nI 0)))]]) H := hP
  have hD : va_D A (fl [[(h0, .inr (3, [.ref qa1, .ref qa2, .ref qa3, .ref qa4, .int (nI 0), .ref qa5, .ref qa6, .null, .null, .int (nI 0), .int (nI 0), .int (nI 0), .long (lN 0)]))], [(qa1, .inl (kC 1, 64, .inr (.inl (fun _ => lN 0))))], [(qa2, .inl (kC 1, 256, .inr (.inl (fun _ => lN 0))))], [(qa3, .inl (kC 0, 8, .inl (fun _ => nI 0)))], [(qa4, .inl (kC 1, 8, .inr (.inl (fun _ => lN 0))))], [(qa5, .inl (kC 0, 8, .inl (fun _ => nI 0)))], [(qa6, .inl (kC 0, 8, .inl (fun _ => nI 0)))]]) := hD
  refine lv_aload_n hx hb d_M_i_58 rfl (lv_at hl 0 rfl) ?_
  refine lv_bipush (v := nI 8) hx hb d_M_i_59 (by decide +kernel) ?_
  refine fv_newa (atype := .long) (ty := .long) (kB := kC 1) (N := 8) (a0 := (8, .inr (.inl (fun _ => lN 0)))) hx hb (hts (.arrayClass .long) (by decide +kernel)) rfl hK hP hD hS hA 1 rfl (fun _ h => by cases h) (z_long 8) (by decide +kernel) (by decide +kernel) (Nat.le_of_ble_eq_true rfl) (Nat.le_of_ble_eq_true rfl) d_M_i_61 (fun qa7 H hP hD hS => ?_)
  refine W.cs (cells' := 7) (slots' := 360) rfl rfl ?_
  have hP : va_P D cls (fl [[(h0, .inr (3, [.ref qa1, .ref qa2, .ref qa3, .ref qa4, .int (nI 0), .ref qa5, .ref qa6, .null, .null, .int (nI 0), .int (nI 0), .int (nI 0), .long (lN 0)]))], [(qa1, .inl (kC 1, 64, .inr (.inl (fun _ => lN 0))))], [(qa2, .inl (kC 1, 256, .inr (.inl (fun _ => lN 0))))], [(qa3, .inl (kC 0, 8, .inl (fun _ => nI 0)))], [(qa4, .inl (kC 1, 8, .inr (.inl (fun _ => lN 0))))], [(qa5, .inl (kC 0, 8, .inl (fun _ => nI 0)))], [(qa6, .inl (kC 0, 8, .inl (fun _ => nI 0)))], [(qa7, .inl (kC 1, 8, .inr (.inl (fun _ => lN 0))))]]) H := hP
  have hD : va_D A (fl [[(h0, .inr (3, [.ref qa1, .ref qa2, .ref qa3, .ref qa4, .int (nI 0), .ref qa5, .ref qa6, .null, .null, .int (nI 0), .int (nI 0), .int (nI 0), .long (lN 0)]))], [(qa1, .inl (kC 1, 64, .inr (.inl (fun _ => lN 0))))], [(qa2, .inl (kC 1, 256, .inr (.inl (fun _ => lN 0))))], [(qa3, .inl (kC 0, 8, .inl (fun _ => nI 0)))], [(qa4, .inl (kC 1, 8, .inr (.inl (fun _ => lN 0))))], [(qa5, .inl (kC 0, 8, .inl (fun _ => nI 0)))], [(qa6, .inl (kC 0, 8, .inl (fun _ => nI 0)))], [(qa7, .inl (kC 1, 8, .inr (.inl (fun _ => lN 0))))]]) := hD
  refine fv_putF (ci := 3) (v := .ref qa7) (ty := (.array .long)) (C := R_M) (T := F_M) (N := 13) hx hb hts (by decide +kernel) t_M t_M_ok n_M hown hK hP hD hS 0 0 rfl rfl rfl 7 (by decide) (hts (.fieldLink R_M 35 "PartShelves$Matching" "partGains" "[J") (by decide +kernel)) (fun _ h9 => h9) rfl hin rfl (by decide +kernel) (rfl) (rfl) (Nat.le_of_ble_eq_true rfl) d_M_i_63 (fun H locs hP hD hS => ?_)
  have hP : va_P D cls (fl [[(h0, .inr (3, [.ref qa1, .ref qa2, .ref qa3, .ref qa4, .int (nI 0), .ref qa5, .ref qa6, .ref qa7, .null, .int (nI 0), .int (nI 0), .int (nI 0), .long (lN 0)]))], [(qa1, .inl (kC 1, 64, .inr (.inl (fun _ => lN 0))))], [(qa2, .inl (kC 1, 256, .inr (.inl (fun _ => lN 0))))], [(qa3, .inl (kC 0, 8, .inl (fun _ => nI 0)))], [(qa4, .inl (kC 1, 8, .inr (.inl (fun _ => lN 0))))], [(qa5, .inl (kC 0, 8, .inl (fun _ => nI 0)))], [(qa6, .inl (kC 0, 8, .inl (fun _ => nI 0)))], [(qa7, .inl (kC 1, 8, .inr (.inl (fun _ => lN 0))))]]) H := hP
  have hD : va_D A (fl [[(h0, .inr (3, [.ref qa1, .ref qa2, .ref qa3, .ref qa4, .int (nI 0), .ref qa5, .ref qa6, .ref qa7, .null, .int (nI 0), .int (nI 0), .int (nI 0), .long (lN 0)]))], [(qa1, .inl (kC 1, 64, .inr (.inl (fun _ => lN 0))))], [(qa2, .inl (kC 1, 256, .inr (.inl (fun _ => lN 0))))], [(qa3, .inl (kC 0, 8, .inl (fun _ => nI 0)))], [(qa4, .inl (kC 1, 8, .inr (.inl (fun _ => lN 0))))], [(qa5, .inl (kC 0, 8, .inl (fun _ => nI 0)))], [(qa6, .inl (kC 0, 8, .inl (fun _ => nI 0)))], [(qa7, .inl (kC 1, 8, .inr (.inl (fun _ => lN 0))))]]) := hD
  refine lv_aload_n hx hb d_M_i_66 rfl (lv_at hl 0 rfl) ?_
  refine lv_bipush (v := nI 8) hx hb d_M_i_67 (by decide +kernel) ?_
  refine fv_newa (atype := .long) (ty := .long) (kB := kC 1) (N := 8) (a0 := (8, .inr (.inl (fun _ => lN 0)))) hx hb (hts (.arrayClass .long) (by decide +kernel)) rfl hK hP hD hS hA 1 rfl (fun _ h => by cases h) (z_long 8) (by decide +kernel) (by decide +kernel) (Nat.le_of_ble_eq_true rfl) (Nat.le_of_ble_eq_true rfl) d_M_i_69 (fun qa8 H hP hD hS => ?_)
  refine W.cs (cells' := 8) (slots' := 368) rfl rfl ?_
  have hP : va_P D cls (fl [[(h0, .inr (3, [.ref qa1, .ref qa2, .ref qa3, .ref qa4, .int (nI 0), .ref qa5, .ref qa6, .ref qa7, .null, .int (nI 0), .int (nI 0), .int (nI 0), .long (lN 0)]))], [(qa1, .inl (kC 1, 64, .inr (.inl (fun _ => lN 0))))], [(qa2, .inl (kC 1, 256, .inr (.inl (fun _ => lN 0))))], [(qa3, .inl (kC 0, 8, .inl (fun _ => nI 0)))], [(qa4, .inl (kC 1, 8, .inr (.inl (fun _ => lN 0))))], [(qa5, .inl (kC 0, 8, .inl (fun _ => nI 0)))], [(qa6, .inl (kC 0, 8, .inl (fun _ => nI 0)))], [(qa7, .inl (kC 1, 8, .inr (.inl (fun _ => lN 0))))], [(qa8, .inl (kC 1, 8, .inr (.inl (fun _ => lN 0))))]]) H := hP
  have hD : va_D A (fl [[(h0, .inr (3, [.ref qa1, .ref qa2, .ref qa3, .ref qa4, .int (nI 0), .ref qa5, .ref qa6, .ref qa7, .null, .int (nI 0), .int (nI 0), .int (nI 0), .long (lN 0)]))], [(qa1, .inl (kC 1, 64, .inr (.inl (fun _ => lN 0))))], [(qa2, .inl (kC 1, 256, .inr (.inl (fun _ => lN 0))))], [(qa3, .inl (kC 0, 8, .inl (fun _ => nI 0)))], [(qa4, .inl (kC 1, 8, .inr (.inl (fun _ => lN 0))))], [(qa5, .inl (kC 0, 8, .inl (fun _ => nI 0)))], [(qa6, .inl (kC 0, 8, .inl (fun _ => nI 0)))], [(qa7, .inl (kC 1, 8, .inr (.inl (fun _ => lN 0))))], [(qa8, .inl (kC 1, 8, .inr (.inl (fun _ => lN 0))))]]) := hD
  refine fv_putF (ci := 3) (v := .ref qa8) (ty := (.array .long)) (C := R_M) (T := F_M) (N := 13) hx hb hts (by decide +kernel) t_M t_M_ok n_M hown hK hP hD hS 0 0 rfl rfl rfl 8 (by decide) (hts (.fieldLink R_M 38 "PartShelves$Matching" "askGains" "[J") (by decide +kernel)) (fun _ h9 => h9) rfl hin rfl (by decide +kernel) (rfl) (rfl) (Nat.le_of_ble_eq_true rfl) d_M_i_71 (fun H locs hP hD hS => ?_)
  have hP : va_P D cls (fl [[(h0, .inr (3, [.ref qa1, .ref qa2, .ref qa3, .ref qa4, .int (nI 0), .ref qa5, .ref qa6, .ref qa7, .ref qa8, .int (nI 0), .int (nI 0), .int (nI 0), .long (lN 0)]))], [(qa1, .inl (kC 1, 64, .inr (.inl (fun _ => lN 0))))], [(qa2, .inl (kC 1, 256, .inr (.inl (fun _ => lN 0))))], [(qa3, .inl (kC 0, 8, .inl (fun _ => nI 0)))], [(qa4, .inl (kC 1, 8, .inr (.inl (fun _ => lN 0))))], [(qa5, .inl (kC 0, 8, .inl (fun _ => nI 0)))], [(qa6, .inl (kC 0, 8, .inl (fun _ => nI 0)))], [(qa7, .inl (kC 1, 8, .inr (.inl (fun _ => lN 0))))], [(qa8, .inl (kC 1, 8, .inr (.inl (fun _ => lN 0))))]]) H := hP
  have hD : va_D A (fl [[(h0, .inr (3, [.ref qa1, .ref qa2, .ref qa3, .ref qa4, .int (nI 0), .ref qa5, .ref qa6, .ref qa7, .ref qa8, .int (nI 0), .int (nI 0), .int (nI 0), .long (lN 0)]))], [(qa1, .inl (kC 1, 64, .inr (.inl (fun _ => lN 0))))], [(qa2, .inl (kC 1, 256, .inr (.inl (fun _ => lN 0))))], [(qa3, .inl (kC 0, 8, .inl (fun _ => nI 0)))], [(qa4, .inl (kC 1, 8, .inr (.inl (fun _ => lN 0))))], [(qa5, .inl (kC 0, 8, .inl (fun _ => nI 0)))], [(qa6, .inl (kC 0, 8, .inl (fun _ => nI 0)))], [(qa7, .inl (kC 1, 8, .inr (.inl (fun _ => lN 0))))], [(qa8, .inl (kC 1, 8, .inr (.inl (fun _ => lN 0))))]]) := hD
  refine lv_aload_n hx hb d_M_i_74 rfl (lv_at hl 0 rfl) ?_
  refine lv_iconst (v := nI 0) hx hb d_M_i_75 (by decide) ?_
  refine fv_put (ci := 3) (v := .int (nI 0)) (ty := (.int)) (C := R_M) (T := F_M) (N := 13) hx hb hts (by decide +kernel) t_M t_M_ok n_M hown hK hP hD hS 0 0 rfl rfl rfl 9 (by decide) (hts (.fieldLink R_M 41 "PartShelves$Matching" "partCount" "I") (by decide +kernel)) (fun _ h9 => h9) rfl (by decide +kernel) (rfl) (rfl) (Nat.le_of_ble_eq_true rfl) d_M_i_76 (fun H locs hP hD hS => ?_)
  have hP : va_P D cls (fl [[(h0, .inr (3, [.ref qa1, .ref qa2, .ref qa3, .ref qa4, .int (nI 0), .ref qa5, .ref qa6, .ref qa7, .ref qa8, .int (nI 0), .int (nI 0), .int (nI 0), .long (lN 0)]))], [(qa1, .inl (kC 1, 64, .inr (.inl (fun _ => lN 0))))], [(qa2, .inl (kC 1, 256, .inr (.inl (fun _ => lN 0))))], [(qa3, .inl (kC 0, 8, .inl (fun _ => nI 0)))], [(qa4, .inl (kC 1, 8, .inr (.inl (fun _ => lN 0))))], [(qa5, .inl (kC 0, 8, .inl (fun _ => nI 0)))], [(qa6, .inl (kC 0, 8, .inl (fun _ => nI 0)))], [(qa7, .inl (kC 1, 8, .inr (.inl (fun _ => lN 0))))], [(qa8, .inl (kC 1, 8, .inr (.inl (fun _ => lN 0))))]]) H := hP
  have hD : va_D A (fl [[(h0, .inr (3, [.ref qa1, .ref qa2, .ref qa3, .ref qa4, .int (nI 0), .ref qa5, .ref qa6, .ref qa7, .ref qa8, .int (nI 0), .int (nI 0), .int (nI 0), .long (lN 0)]))], [(qa1, .inl (kC 1, 64, .inr (.inl (fun _ => lN 0))))], [(qa2, .inl (kC 1, 256, .inr (.inl (fun _ => lN 0))))], [(qa3, .inl (kC 0, 8, .inl (fun _ => nI 0)))], [(qa4, .inl (kC 1, 8, .inr (.inl (fun _ => lN 0))))], [(qa5, .inl (kC 0, 8, .inl (fun _ => nI 0)))], [(qa6, .inl (kC 0, 8, .inl (fun _ => nI 0)))], [(qa7, .inl (kC 1, 8, .inr (.inl (fun _ => lN 0))))], [(qa8, .inl (kC 1, 8, .inr (.inl (fun _ => lN 0))))]]) := hD
  refine lv_aload_n hx hb d_M_i_79 rfl (lv_at hl 0 rfl) ?_
  refine lv_iconst (v := nI 0) hx hb d_M_i_80 (by decide) ?_
  refine fv_put (ci := 3) (v := .int (nI 0)) (ty := (.int)) (C := R_M) (T := F_M) (N := 13) hx hb hts (by decide +kernel) t_M t_M_ok n_M hown hK hP hD hS 0 0 rfl rfl rfl 10 (by decide) (hts (.fieldLink R_M 44 "PartShelves$Matching" "askCount" "I") (by decide +kernel)) (fun _ h9 => h9) rfl (by decide +kernel) (rfl) (rfl) (Nat.le_of_ble_eq_true rfl) d_M_i_81 (fun H locs hP hD hS => ?_)
  have hP : va_P D cls (fl [[(h0, .inr (3, [.ref qa1, .ref qa2, .ref qa3, .ref qa4, .int (nI 0), .ref qa5, .ref qa6, .ref qa7, .ref qa8, .int (nI 0), .int (nI 0), .int (nI 0), .long (lN 0)]))], [(qa1, .inl (kC 1, 64, .inr (.inl (fun _ => lN 0))))], [(qa2, .inl (kC 1, 256, .inr (.inl (fun _ => lN 0))))], [(qa3, .inl (kC 0, 8, .inl (fun _ => nI 0)))], [(qa4, .inl (kC 1, 8, .inr (.inl (fun _ => lN 0))))], [(qa5, .inl (kC 0, 8, .inl (fun _ => nI 0)))], [(qa6, .inl (kC 0, 8, .inl (fun _ => nI 0)))], [(qa7, .inl (kC 1, 8, .inr (.inl (fun _ => lN 0))))], [(qa8, .inl (kC 1, 8, .inr (.inl (fun _ => lN 0))))]]) H := hP
  have hD : va_D A (fl [[(h0, .inr (3, [.ref qa1, .ref qa2, .ref qa3, .ref qa4, .int (nI 0), .ref qa5, .ref qa6, .ref qa7, .ref qa8, .int (nI 0), .int (nI 0), .int (nI 0), .long (lN 0)]))], [(qa1, .inl (kC 1, 64, .inr (.inl (fun _ => lN 0))))], [(qa2, .inl (kC 1, 256, .inr (.inl (fun _ => lN 0))))], [(qa3, .inl (kC 0, 8, .inl (fun _ => nI 0)))], [(qa4, .inl (kC 1, 8, .inr (.inl (fun _ => lN 0))))], [(qa5, .inl (kC 0, 8, .inl (fun _ => nI 0)))], [(qa6, .inl (kC 0, 8, .inl (fun _ => nI 0)))], [(qa7, .inl (kC 1, 8, .inr (.inl (fun _ => lN 0))))], [(qa8, .inl (kC 1, 8, .inr (.inl (fun _ => lN 0))))]]) := hD
  refine lv_aload_n hx hb d_M_i_84 rfl (lv_at hl 0 rfl) ?_
  refine lv_iconst (v := nI 0) hx hb d_M_i_85 (by decide) ?_
  refine fv_put (ci := 3) (v := .int (nI 0)) (ty := (.int)) (C := R_M) (T := F_M) (N := 13) hx hb hts (by decide +kernel) t_M t_M_ok n_M hown hK hP hD hS 0 0 rfl rfl rfl 11 (by decide) (hts (.fieldLink R_M 47 "PartShelves$Matching" "pairCount" "I") (by decide +kernel)) (fun _ h9 => h9) rfl (by decide +kernel) (rfl) (rfl) (Nat.le_of_ble_eq_true rfl) d_M_i_86 (fun H locs hP hD hS => ?_)
  have hP : va_P D cls (fl [[(h0, .inr (3, [.ref qa1, .ref qa2, .ref qa3, .ref qa4, .int (nI 0), .ref qa5, .ref qa6, .ref qa7, .ref qa8, .int (nI 0), .int (nI 0), .int (nI 0), .long (lN 0)]))], [(qa1, .inl (kC 1, 64, .inr (.inl (fun _ => lN 0))))], [(qa2, .inl (kC 1, 256, .inr (.inl (fun _ => lN 0))))], [(qa3, .inl (kC 0, 8, .inl (fun _ => nI 0)))], [(qa4, .inl (kC 1, 8, .inr (.inl (fun _ => lN 0))))], [(qa5, .inl (kC 0, 8, .inl (fun _ => nI 0)))], [(qa6, .inl (kC 0, 8, .inl (fun _ => nI 0)))], [(qa7, .inl (kC 1, 8, .inr (.inl (fun _ => lN 0))))], [(qa8, .inl (kC 1, 8, .inr (.inl (fun _ => lN 0))))]]) H := hP
  have hD : va_D A (fl [[(h0, .inr (3, [.ref qa1, .ref qa2, .ref qa3, .ref qa4, .int (nI 0), .ref qa5, .ref qa6, .ref qa7, .ref qa8, .int (nI 0), .int (nI 0), .int (nI 0), .long (lN 0)]))], [(qa1, .inl (kC 1, 64, .inr (.inl (fun _ => lN 0))))], [(qa2, .inl (kC 1, 256, .inr (.inl (fun _ => lN 0))))], [(qa3, .inl (kC 0, 8, .inl (fun _ => nI 0)))], [(qa4, .inl (kC 1, 8, .inr (.inl (fun _ => lN 0))))], [(qa5, .inl (kC 0, 8, .inl (fun _ => nI 0)))], [(qa6, .inl (kC 0, 8, .inl (fun _ => nI 0)))], [(qa7, .inl (kC 1, 8, .inr (.inl (fun _ => lN 0))))], [(qa8, .inl (kC 1, 8, .inr (.inl (fun _ => lN 0))))]]) := hD
  refine lv_aload_n hx hb d_M_i_89 rfl (lv_at hl 0 rfl) ?_
  refine lv_ldc2 (v := (-1)) hx hb hown (hts (.constantLong R_M 50 (-1)) (by decide +kernel)) d_M_i_90 ?_
  refine fv_put (ci := 3) (v := .long (-1)) (ty := (.long)) (C := R_M) (T := F_M) (N := 13) hx hb hts (by decide +kernel) t_M t_M_ok n_M hown hK hP hD hS 0 0 rfl rfl rfl 12 (by decide) (hts (.fieldLink R_M 52 "PartShelves$Matching" "total" "J") (by decide +kernel)) (fun _ h9 => h9) rfl (by decide +kernel) (rfl) (rfl) (Nat.le_of_ble_eq_true rfl) d_M_i_93 (fun H locs hP hD hS => ?_)
  have hP : va_P D cls (fl [[(h0, .inr (3, [.ref qa1, .ref qa2, .ref qa3, .ref qa4, .int (nI 0), .ref qa5, .ref qa6, .ref qa7, .ref qa8, .int (nI 0), .int (nI 0), .int (nI 0), .long (-1)]))], [(qa1, .inl (kC 1, 64, .inr (.inl (fun _ => lN 0))))], [(qa2, .inl (kC 1, 256, .inr (.inl (fun _ => lN 0))))], [(qa3, .inl (kC 0, 8, .inl (fun _ => nI 0)))], [(qa4, .inl (kC 1, 8, .inr (.inl (fun _ => lN 0))))], [(qa5, .inl (kC 0, 8, .inl (fun _ => nI 0)))], [(qa6, .inl (kC 0, 8, .inl (fun _ => nI 0)))], [(qa7, .inl (kC 1, 8, .inr (.inl (fun _ => lN 0))))], [(qa8, .inl (kC 1, 8, .inr (.inl (fun _ => lN 0))))]]) H := hP
  have hD : va_D A (fl [[(h0, .inr (3, [.ref qa1, .ref qa2, .ref qa3, .ref qa4, .int (nI 0), .ref qa5, .ref qa6, .ref qa7, .ref qa8, .int (nI 0), .int (nI 0), .int (nI 0), .long (-1)]))], [(qa1, .inl (kC 1, 64, .inr (.inl (fun _ => lN 0))))], [(qa2, .inl (kC 1, 256, .inr (.inl (fun _ => lN 0))))], [(qa3, .inl (kC 0, 8, .inl (fun _ => nI 0)))], [(qa4, .inl (kC 1, 8, .inr (.inl (fun _ => lN 0))))], [(qa5, .inl (kC 0, 8, .inl (fun _ => nI 0)))], [(qa6, .inl (kC 0, 8, .inl (fun _ => nI 0)))], [(qa7, .inl (kC 1, 8, .inr (.inl (fun _ => lN 0))))], [(qa8, .inl (kC 1, 8, .inr (.inl (fun _ => lN 0))))]]) := hD
  exact W.vret hx hb hr (fun t ht hW => by subst hAe; exact ⟨⟨(fun i => [h0, qa1, qa2, qa3, qa4, qa5, qa6, qa7, qa8].getD i 0), rfl, rfl, by rw [ht]; exact hP, va_K.moved hW.alike hK, hD⟩, hS.F ht⟩) (by subst hAe; exact hS.2.2) d_M_i_96

