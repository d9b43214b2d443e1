abbrev b_M_solve : ByteArray := prog_4_method_5_code
def y_M_solve : MethodName := ⟨"PartShelves$Matching", "solve", "()I"⟩
theorem d_M_solve_0 : decode b_M_solve 0 = .ok (.aload_n 0, 1) := by decide +kernel
theorem d_M_solve_1 : decode b_M_solve 1 = .ok (.invokevirtual 56, 3) := by decide +kernel
theorem d_M_solve_4 : decode b_M_solve 4 = .ok (.aload_n 0, 1) := by decide +kernel
theorem d_M_solve_5 : decode b_M_solve 5 = .ok (.aload_n 0, 1) := by decide +kernel
theorem d_M_solve_6 : decode b_M_solve 6 = .ok (.getfield 44, 3) := by decide +kernel
theorem d_M_solve_9 : decode b_M_solve 9 = .ok (.bipush 8, 2) := by decide +kernel
theorem d_M_solve_11 : decode b_M_solve 11 = .ok (.aload_n 0, 1) := by decide +kernel
theorem d_M_solve_12 : decode b_M_solve 12 = .ok (.getfield 41, 3) := by decide +kernel
theorem d_M_solve_15 : decode b_M_solve 15 = .ok (.iconst 1, 1) := by decide +kernel
theorem d_M_solve_16 : decode b_M_solve 16 = .ok (.invokevirtual 59, 3) := by decide +kernel
theorem d_M_solve_19 : decode b_M_solve 19 = .ok (.iconst 1, 1) := by decide +kernel
theorem d_M_solve_20 : decode b_M_solve 20 = .ok (.aload_n 0, 1) := by decide +kernel
theorem d_M_solve_21 : decode b_M_solve 21 = .ok (.getfield 41, 3) := by decide +kernel
theorem d_M_solve_24 : decode b_M_solve 24 = .ok (.ishl, 1) := by decide +kernel
theorem d_M_solve_25 : decode b_M_solve 25 = .ok (.iconst 1, 1) := by decide +kernel
theorem d_M_solve_26 : decode b_M_solve 26 = .ok (.isub, 1) := by decide +kernel
theorem d_M_solve_27 : decode b_M_solve 27 = .ok (.istore_n 1, 1) := by decide +kernel
theorem d_M_solve_28 : decode b_M_solve 28 = .ok (.aload_n 0, 1) := by decide +kernel
theorem d_M_solve_29 : decode b_M_solve 29 = .ok (.aload_n 0, 1) := by decide +kernel
theorem d_M_solve_30 : decode b_M_solve 30 = .ok (.getfield 15, 3) := by decide +kernel
theorem d_M_solve_33 : decode b_M_solve 33 = .ok (.iload_n 1, 1) := by decide +kernel
theorem d_M_solve_34 : decode b_M_solve 34 = .ok (.laload, 1) := by decide +kernel
theorem d_M_solve_35 : decode b_M_solve 35 = .ok (.ldc2_w 63, 3) := by decide +kernel
theorem d_M_solve_38 : decode b_M_solve 38 = .ok (.ldiv, 1) := by decide +kernel
theorem d_M_solve_39 : decode b_M_solve 39 = .ok (.putfield 52, 3) := by decide +kernel
theorem d_M_solve_42 : decode b_M_solve 42 = .ok (.aload_n 0, 1) := by decide +kernel
theorem d_M_solve_43 : decode b_M_solve 43 = .ok (.aload_n 0, 1) := by decide +kernel
theorem d_M_solve_44 : decode b_M_solve 44 = .ok (.getfield 15, 3) := by decide +kernel
theorem d_M_solve_47 : decode b_M_solve 47 = .ok (.iload_n 1, 1) := by decide +kernel
theorem d_M_solve_48 : decode b_M_solve 48 = .ok (.laload, 1) := by decide +kernel
theorem d_M_solve_49 : decode b_M_solve 49 = .ok (.ldc2_w 63, 3) := by decide +kernel
theorem d_M_solve_52 : decode b_M_solve 52 = .ok (.lrem, 1) := by decide +kernel
theorem d_M_solve_53 : decode b_M_solve 53 = .ok (.invokevirtual 65, 3) := by decide +kernel
theorem d_M_solve_56 : decode b_M_solve 56 = .ok (.aload_n 0, 1) := by decide +kernel
theorem d_M_solve_57 : decode b_M_solve 57 = .ok (.aload_n 0, 1) := by decide +kernel
theorem d_M_solve_58 : decode b_M_solve 58 = .ok (.getfield 35, 3) := by decide +kernel
theorem d_M_solve_61 : decode b_M_solve 61 = .ok (.aload_n 0, 1) := by decide +kernel
theorem d_M_solve_62 : decode b_M_solve 62 = .ok (.getfield 41, 3) := by decide +kernel
theorem d_M_solve_65 : decode b_M_solve 65 = .ok (.invokevirtual 69, 3) := by decide +kernel
theorem d_M_solve_68 : decode b_M_solve 68 = .ok (.aload_n 0, 1) := by decide +kernel
theorem d_M_solve_69 : decode b_M_solve 69 = .ok (.aload_n 0, 1) := by decide +kernel
theorem d_M_solve_70 : decode b_M_solve 70 = .ok (.getfield 41, 3) := by decide +kernel
theorem d_M_solve_73 : decode b_M_solve 73 = .ok (.iconst 1, 1) := by decide +kernel
theorem d_M_solve_74 : decode b_M_solve 74 = .ok (.aload_n 0, 1) := by decide +kernel
theorem d_M_solve_75 : decode b_M_solve 75 = .ok (.getfield 44, 3) := by decide +kernel
theorem d_M_solve_78 : decode b_M_solve 78 = .ok (.bipush 8, 2) := by decide +kernel
theorem d_M_solve_80 : decode b_M_solve 80 = .ok (.invokevirtual 59, 3) := by decide +kernel
theorem d_M_solve_83 : decode b_M_solve 83 = .ok (.aload_n 0, 1) := by decide +kernel
theorem d_M_solve_84 : decode b_M_solve 84 = .ok (.aload_n 0, 1) := by decide +kernel
theorem d_M_solve_85 : decode b_M_solve 85 = .ok (.getfield 38, 3) := by decide +kernel
theorem d_M_solve_88 : decode b_M_solve 88 = .ok (.aload_n 0, 1) := by decide +kernel
theorem d_M_solve_89 : decode b_M_solve 89 = .ok (.getfield 44, 3) := by decide +kernel
theorem d_M_solve_92 : decode b_M_solve 92 = .ok (.invokevirtual 69, 3) := by decide +kernel
theorem d_M_solve_95 : decode b_M_solve 95 = .ok (.aload_n 0, 1) := by decide +kernel
theorem d_M_solve_96 : decode b_M_solve 96 = .ok (.getfield 47, 3) := by decide +kernel
theorem d_M_solve_99 : decode b_M_solve 99 = .ok (.ireturn, 1) := by decide +kernel
def w_M_solve : List Cond := .code y_M_solve b_M_solve 2 (some .int) :: ([.methodLink "PartShelves$Matching" 56 ⟨"PartShelves$Matching", "turnWorthsIntoShares", "()V"⟩, .instanceMethod ⟨"PartShelves$Matching", "turnWorthsIntoShares", "()V"⟩, .selects "PartShelves$Matching" ⟨"PartShelves$Matching", "turnWorthsIntoShares", "()V"⟩ ⟨"PartShelves$Matching", "turnWorthsIntoShares", "()V"⟩, .initialized "PartShelves$Matching", .code ⟨"PartShelves$Matching", "turnWorthsIntoShares", "()V"⟩ prog_4_method_9_code 8 none, .fieldLink "PartShelves$Matching" 44 "PartShelves$Matching" "askCount" "I", .fieldLink "PartShelves$Matching" 29 "PartShelves$Matching" "askByRank" "[I", .fieldLink "PartShelves$Matching" 41 "PartShelves$Matching" "partCount" "I", .fieldLink "PartShelves$Matching" 9 "PartShelves$Matching" "shares" "[J", .constantLong "PartShelves$Matching" 50 (-1), .constantLong "PartShelves$Matching" 63 43046721, .constantLong "PartShelves$Matching" 73 9, .methodLink "PartShelves$Matching" 59 ⟨"PartShelves$Matching", "weighSets", "(IIII)V"⟩, .instanceMethod ⟨"PartShelves$Matching", "weighSets", "(IIII)V"⟩, .selects "PartShelves$Matching" ⟨"PartShelves$Matching", "weighSets", "(IIII)V"⟩ ⟨"PartShelves$Matching", "weighSets", "(IIII)V"⟩, .code ⟨"PartShelves$Matching", "weighSets", "(IIII)V"⟩ prog_4_method_10_code 7 none, .fieldLink "PartShelves$Matching" 15 "PartShelves$Matching" "best" "[J", .methodLink "PartShelves$Matching" 75 ⟨"PartShelves$Matching", "collectOptions", "(III)V"⟩, .instanceMethod ⟨"PartShelves$Matching", "collectOptions", "(III)V"⟩, .selects "PartShelves$Matching" ⟨"PartShelves$Matching", "collectOptions", "(III)V"⟩ ⟨"PartShelves$Matching", "collectOptions", "(III)V"⟩, .code ⟨"PartShelves$Matching", "collectOptions", "(III)V"⟩ prog_4_method_11_code 7 none, .fieldLink "PartShelves$Matching" 25 "PartShelves$Matching" "optionCount" "I", .fieldLink "PartShelves$Matching" 18 "PartShelves$Matching" "optionBits" "[I", .fieldLink "PartShelves$Matching" 22 "PartShelves$Matching" "optionShares" "[J", .methodLink "PartShelves$Matching" 79 ⟨"PartShelves$Matching", "addRow", "(I)V"⟩, .instanceMethod ⟨"PartShelves$Matching", "addRow", "(I)V"⟩, .selects "PartShelves$Matching" ⟨"PartShelves$Matching", "addRow", "(I)V"⟩ ⟨"PartShelves$Matching", "addRow", "(I)V"⟩, .code ⟨"PartShelves$Matching", "addRow", "(I)V"⟩ prog_4_method_12_code 7 none, .methodLink "PartShelves$Matching" 83 ⟨"java/lang/Math", "max", "(JJ)J"⟩, .static ⟨"java/lang/Math", "max", "(JJ)J"⟩, .initialized "java/lang/Math", .code ⟨"java/lang/Math", "max", "(JJ)J"⟩ prog_14_method_66_code 4 (some .long), .fieldLink "PartShelves$Matching" 52 "PartShelves$Matching" "total" "J", .methodLink "PartShelves$Matching" 65 ⟨"PartShelves$Matching", "readGiven", "(J)V"⟩, .instanceMethod ⟨"PartShelves$Matching", "readGiven", "(J)V"⟩, .selects "PartShelves$Matching" ⟨"PartShelves$Matching", "readGiven", "(J)V"⟩ ⟨"PartShelves$Matching", "readGiven", "(J)V"⟩, .code ⟨"PartShelves$Matching", "readGiven", "(J)V"⟩ prog_4_method_13_code 7 none, .fieldLink "PartShelves$Matching" 47 "PartShelves$Matching" "pairCount" "I", .fieldLink "PartShelves$Matching" 32 "PartShelves$Matching" "given" "[I", .fieldLink "PartShelves$Matching" 35 "PartShelves$Matching" "partGains" "[J", .methodLink "PartShelves$Matching" 69 ⟨"PartShelves$Matching", "readGains", "([JI)V"⟩, .instanceMethod ⟨"PartShelves$Matching", "readGains", "([JI)V"⟩, .selects "PartShelves$Matching" ⟨"PartShelves$Matching", "readGains", "([JI)V"⟩ ⟨"PartShelves$Matching", "readGains", "([JI)V"⟩, .code ⟨"PartShelves$Matching", "readGains", "([JI)V"⟩ prog_4_method_14_code 5 none, .fieldLink "PartShelves$Matching" 38 "PartShelves$Matching" "askGains" "[J"] ++ u_ws R_M F_M 13)
set_option maxRecDepth 20000 in
theorem g_M_solve_turn : GoodIn w_M_solve (wsV R_M 56 R_M y_M_turnWorthsIntoShares w_M_turnWorthsIntoShares) := goodIn_p _ [5] rfl (by decide +kernel)
set_option maxRecDepth 20000 in
theorem g_M_solve_weigh : GoodIn w_M_solve (wsV R_M 59 R_M y_M_weighSets w_M_weighSets) := goodIn_p _ [16, 21, 28, 32] rfl (by decide +kernel)
set_option maxRecDepth 20000 in
theorem g_M_solve_given : GoodIn w_M_solve (wsV R_M 65 R_M y_M_readGiven w_M_readGiven) := goodIn_p _ [37] rfl (by decide +kernel)
set_option maxRecDepth 20000 in
theorem g_M_solve_gains : GoodIn w_M_solve (wsV R_M 69 R_M y_M_readGains w_M_readGains) := goodIn_p _ [44] rfl (by decide +kernel)
set_option maxHeartbeats 4000000 in
set_option maxRecDepth 100000 in
theorem c_M_solve (l : Launch) (D : va_G) (kC : Nat → ClassId) (ad : Nat → Nat) (sh : Nat → Int64) (be : Nat → Int64) (ob : Nat → Int32) (os : Nat → Int64) (oc : Nat) (ar : Nat → Int32) (gi : Nat → Int32) (pg : Nat → Int64) (ag : Nat → Int64) (pn : Nat) (an : Nat) (prn : Nat) (tot : Int64) (arN : Nat → Nat) (X : Nat) (sz : Nat) (h8p : pn ≤ 8) (h8a : an ≤ 8) (har : ∀ r, r < an → ar r = nI (arN r) ∧ arN r < 8) (hX : (wsB (turnF arN pn an sh (lN 1)) 8 1 pn (2 ^ pn) be os an) (2 ^ pn - 1) = lN X) (hX63 : X < 2 ^ 63) : Met l y_M_solve w_M_solve ({ frames := 3, cells := 0, slots := 0, locals := 67 } : Room) (gPre cls D (tyL kC) [.ref (ad 0)] (fl [(wM kC ad sh be ob os oc ar gi pg ag pn an prn tot)]) sz) (gQi cls D (tyL kC) (fl [(wM kC ad sh be ob os oc ar gi pg ag pn an prn tot)]) sz (nI (gvN an (X % 43046721) 0)) (fl [(wM kC ad (turnF arN pn an sh (lN 1)) (wsB (turnF arN pn an sh (lN 1)) 1 8 an (2 ^ an) (wsB (turnF arN pn an sh (lN 1)) 8 1 pn (2 ^ pn) be os an) (wsOs (turnF arN pn an sh (lN 1)) 8 1 pn os an) pn) (wsOb (turnF arN pn an sh (lN 1)) 1 8 an (wsOb (turnF arN pn an sh (lN 1)) 8 1 pn ob an) pn) (wsOs (turnF arN pn an sh (lN 1)) 1 8 an (wsOs (turnF arN pn an sh (lN 1)) 8 1 pn os an) pn) (wsOc (turnF arN pn an sh (lN 1)) 1 8 an (wsOc (turnF arN pn an sh (lN 1)) 8 1 pn oc an) pn) ar (gvF arN an (X % 43046721) gi) (gnF (wsB (turnF arN pn an sh (lN 1)) 8 1 pn (2 ^ pn) be os an) pg (lN (X / 43046721)) (2 ^ pn) pn) (gnF (wsB (turnF arN pn an sh (lN 1)) 1 8 an (2 ^ an) (wsB (turnF arN pn an sh (lN 1)) 8 1 pn (2 ^ pn) be os an) (wsOs (turnF arN pn an sh (lN 1)) 8 1 pn os an) pn) ag (lN (X / 43046721)) (2 ^ an) an) pn an (gvN an (X % 43046721) 0) (lN (X / 43046721)))])) 0 0 (va_A (fl [(wM kC ad sh be ob os oc ar gi pg ag pn an prn tot)]) sz) := by
  refine Met.ofW (cc := b_M_solve) (maxL := 2) (ret := (some .int)) (by decide) rfl ?_
  intro p e s m args below meth c s₁ B hml hv
  obtain ⟨rfl, hsz, hP, hK, hD0⟩ := hv
  have hx := B.exec
  have hb := B.bytes
  have hr := B.returns
  have hts := atoms_spec (ws := w_M_solve) B.pre
  have hown : s.vm.findClass R_M = some m.cls := findClass_of_methodNamed B.named
  have hlocks := B.notSynchronized
  subst hsz
  obtain ⟨A, hAe⟩ : ∃ A : Nat → Prop, A = va_A (fl [(wM kC ad sh be ob os oc ar gi pg ag pn an prn tot)]) s.heap.size := ⟨_, rfl⟩
  have hD : va_D A (fl [(wM kC ad sh be ob os oc ar gi pg ag pn an prn tot)]) := by rw [hAe]; exact hD0.self
  have hA : ∀ q : Nat, s.heap.size ≤ q → A q := fun q h => by rw [hAe]; exact Or.inr h
  have hS : va_S A s.heap s.heap [] := va_S.rf
  have hl := lv_entry ([.ref (ad 0)]) (n := 2) (Nat.le_of_ble_eq_true rfl)
  rw [lg_entry_eq]
  generalize (lg_sl ([.ref (ad 0)]) ++ List.replicate (2 - (lg_sl ([.ref (ad 0)])).length) Slot.unset).toArray = ls at hl ⊢
  have hl : lv_has ls 2 [(0, .ref (ad 0))] := hl
  obtain ⟨hp0, hp1⟩ := pow_in (rfl : 2 ^ pn = 2 ^ pn) h8p
  refine lv_aload_n hx hb d_M_solve_0 rfl (lv_at hl 0 rfl) ?_
  refine g_callvA (va_runV (As := []) (rest := []) ⟨hx, hb, hml, hown, hts⟩ (c_M_turn l D kC ad sh be ob os oc ar gi pg ag pn an prn tot arN (s.heap).size (h8p) (h8a) (har)) (cwV 0 hts g_M_solve_turn rfl rfl rfl (by decide +kernel) ⟨Nat.le_of_ble_eq_true rfl, Nat.le_of_ble_eq_true rfl⟩) (g_preV (f_recv (ci := 3) (q0 := 0) hK hP 0 rfl rfl rfl) hK hP hD) rfl rfl hl.1 rfl (lv_room (Nat.le_of_ble_eq_true rfl)) d_M_solve_1 ⟨Nat.le_of_ble_eq_true rfl, Nat.le_of_ble_eq_true rfl⟩) hS hA hD (fun H locs hP hD hS => ?_)
  refine W.cs (cells' := 0) (slots' := 0) rfl rfl ?_
  have hP : va_P D cls (fl [(wM kC ad (turnF arN pn an sh (lN 1)) be ob os oc ar gi pg ag pn an prn tot)]) H := hP
  have hD : va_D A (fl [(wM kC ad (turnF arN pn an sh (lN 1)) be ob os oc ar gi pg ag pn an prn tot)]) := hD
  refine lv_aload_n hx hb d_M_solve_4 rfl (lv_at hl 0 rfl) ?_
  refine lv_aload_n hx hb d_M_solve_5 rfl (lv_at hl 0 rfl) ?_
  refine fv_get (ci := 3) (v := .int (nI an)) (C := R_M) (T := F_M) (N := 13) hx hb hts (by decide +kernel) hown hK hP 0 0 rfl rfl rfl 10 (by decide) (hts (.fieldLink R_M 44 "PartShelves$Matching" "askCount" "I") (by decide +kernel)) (fun _ h9 => h9) rfl d_M_solve_6 ?_
  refine lv_bipush (v := nI 8) hx hb d_M_solve_9 (by decide +kernel) ?_
  refine lv_aload_n hx hb d_M_solve_11 rfl (lv_at hl 0 rfl) ?_
  refine fv_get (ci := 3) (v := .int (nI pn)) (C := R_M) (T := F_M) (N := 13) hx hb hts (by decide +kernel) hown hK hP 0 0 rfl rfl rfl 9 (by decide) (hts (.fieldLink R_M 41 "PartShelves$Matching" "partCount" "I") (by decide +kernel)) (fun _ h9 => h9) rfl d_M_solve_12 ?_
  refine lv_iconst (v := nI 1) hx hb d_M_solve_15 (by decide) ?_
  refine g_callvA (va_runV (As := [.int (nI an), .int (nI 8), .int (nI pn), .int (nI 1)]) (rest := []) ⟨hx, hb, hml, hown, hts⟩ (c_M_weigh l D kC ad (turnF arN pn an sh (lN 1)) be ob os oc ar gi pg ag pn an prn tot an 8 pn 1 (H).size (h8p) (h8a) (fun r hr i hi => by omega)) (cwV 4 hts g_M_solve_weigh rfl rfl rfl (by decide +kernel) ⟨Nat.le_of_ble_eq_true rfl, Nat.le_of_ble_eq_true rfl⟩) (g_preV (f_recv (ci := 3) (q0 := 0) hK hP 0 rfl rfl rfl) hK hP hD) rfl rfl hl.1 rfl (lv_room (Nat.le_of_ble_eq_true rfl)) d_M_solve_16 ⟨Nat.le_of_ble_eq_true rfl, Nat.le_of_ble_eq_true rfl⟩) hS hA hD (fun H locs hP hD hS => ?_)
  refine W.cs (cells' := 0) (slots' := 0) rfl rfl ?_
  have hP : va_P D cls (fl [(wM kC ad (turnF arN pn an sh (lN 1)) (wsB (turnF arN pn an sh (lN 1)) 8 1 pn (2 ^ pn) be os an) (wsOb (turnF arN pn an sh (lN 1)) 8 1 pn ob an) (wsOs (turnF arN pn an sh (lN 1)) 8 1 pn os an) (wsOc (turnF arN pn an sh (lN 1)) 8 1 pn oc an) ar gi pg ag pn an prn tot)]) H := hP
  have hD : va_D A (fl [(wM kC ad (turnF arN pn an sh (lN 1)) (wsB (turnF arN pn an sh (lN 1)) 8 1 pn (2 ^ pn) be os an) (wsOb (turnF arN pn an sh (lN 1)) 8 1 pn ob an) (wsOs (turnF arN pn an sh (lN 1)) 8 1 pn os an) (wsOc (turnF arN pn an sh (lN 1)) 8 1 pn oc an) ar gi pg ag pn an prn tot)]) := hD
  refine lv_iconst (v := nI 1) hx hb d_M_solve_19 (by decide) ?_
  refine lv_aload_n hx hb d_M_solve_20 rfl (lv_at hl 0 rfl) ?_
  refine fv_get (ci := 3) (v := .int (nI pn)) (C := R_M) (T := F_M) (N := 13) hx hb hts (by decide +kernel) hown hK hP 0 0 rfl rfl rfl 9 (by decide) (hts (.fieldLink R_M 41 "PartShelves$Matching" "partCount" "I") (by decide +kernel)) (fun _ h9 => h9) rfl d_M_solve_21 ?_
  refine lv_ishl hx hb d_M_solve_24 ?_
  refine nv_topi (y := nI (2 ^ pn)) (shl1 pn (by omega)) ?_
  refine lv_iconst (v := nI 1) hx hb d_M_solve_25 (by decide) ?_
  refine nv_isub hx hb d_M_solve_26 (hp0) ?_
  refine lv_istore_n (lv' := [(1, .int (nI (2 ^ pn - 1))), (0, .ref (ad 0))]) hx hb d_M_solve_27 rfl hl (by decide) rfl (fun ls hl => ?_)
  refine lv_aload_n hx hb d_M_solve_28 rfl (lv_at hl 1 rfl) ?_
  refine lv_aload_n hx hb d_M_solve_29 rfl (lv_at hl 1 rfl) ?_
  refine fv_get (ci := 3) (v := .ref (ad 2)) (C := R_M) (T := F_M) (N := 13) hx hb hts (by decide +kernel) hown hK hP 0 0 rfl rfl rfl 1 (by decide) (hts (.fieldLink R_M 15 "PartShelves$Matching" "best" "[J") (by decide +kernel)) (fun _ h9 => h9) rfl d_M_solve_30 ?_
  refine lv_iload_n hx hb d_M_solve_33 rfl (lv_at hl 0 rfl) ?_
  refine fa_lald hx hb hK hP 0 2 1 rfl rfl rfl (by omega) (by decide) d_M_solve_34 ?_
  refine nv_topl (y := lN X) (hX) ?_
  refine lv_ldc2 (v := 43046721) hx hb hown (hts (.constantLong R_M 63 43046721) (by decide +kernel)) d_M_solve_35 ?_
  refine nv_topl (y := lN 43046721) (by decide +kernel) ?_
  refine nv_ldiv hx hb d_M_solve_38 (by omega) (by omega) (by omega) ?_
  refine fv_put (ci := 3) (v := .long (lN (X / 43046721))) (ty := (.long)) (C := R_M) (T := F_M) (N := 13) hx hb hts (by decide +kernel) t_M t_M_ok n_M hown hK hP hD hS 0 0 rfl rfl rfl 12 (by decide) (hts (.fieldLink R_M 52 "PartShelves$Matching" "total" "J") (by decide +kernel)) (fun _ h9 => h9) rfl (by decide +kernel) (rfl) (rfl) (Nat.le_of_ble_eq_true rfl) d_M_solve_39 (fun H locs hP hD hS => ?_)
  have hP : va_P D cls (fl [(wM kC ad (turnF arN pn an sh (lN 1)) (wsB (turnF arN pn an sh (lN 1)) 8 1 pn (2 ^ pn) be os an) (wsOb (turnF arN pn an sh (lN 1)) 8 1 pn ob an) (wsOs (turnF arN pn an sh (lN 1)) 8 1 pn os an) (wsOc (turnF arN pn an sh (lN 1)) 8 1 pn oc an) ar gi pg ag pn an prn (lN (X / 43046721)))]) H := hP
  have hD : va_D A (fl [(wM kC ad (turnF arN pn an sh (lN 1)) (wsB (turnF arN pn an sh (lN 1)) 8 1 pn (2 ^ pn) be os an) (wsOb (turnF arN pn an sh (lN 1)) 8 1 pn ob an) (wsOs (turnF arN pn an sh (lN 1)) 8 1 pn os an) (wsOc (turnF arN pn an sh (lN 1)) 8 1 pn oc an) ar gi pg ag pn an prn (lN (X / 43046721)))]) := hD
  refine lv_aload_n hx hb d_M_solve_42 rfl (lv_at hl 1 rfl) ?_
  refine lv_aload_n hx hb d_M_solve_43 rfl (lv_at hl 1 rfl) ?_
  refine fv_get (ci := 3) (v := .ref (ad 2)) (C := R_M) (T := F_M) (N := 13) hx hb hts (by decide +kernel) hown hK hP 0 0 rfl rfl rfl 1 (by decide) (hts (.fieldLink R_M 15 "PartShelves$Matching" "best" "[J") (by decide +kernel)) (fun _ h9 => h9) rfl d_M_solve_44 ?_
  refine lv_iload_n hx hb d_M_solve_47 rfl (lv_at hl 0 rfl) ?_
  refine fa_lald hx hb hK hP 0 2 1 rfl rfl rfl (by omega) (by decide) d_M_solve_48 ?_
  refine nv_topl (y := lN X) (hX) ?_
  refine lv_ldc2 (v := 43046721) hx hb hown (hts (.constantLong R_M 63 43046721) (by decide +kernel)) d_M_solve_49 ?_
  refine nv_topl (y := lN 43046721) (by decide +kernel) ?_
  refine nv_lrem hx hb d_M_solve_52 (by omega) (by omega) (by omega) ?_
  refine g_callvA (va_runV (As := [.long (lN (X % 43046721))]) (rest := []) ⟨hx, hb, hml, hown, hts⟩ (c_M_given l D kC ad (turnF arN pn an sh (lN 1)) (wsB (turnF arN pn an sh (lN 1)) 8 1 pn (2 ^ pn) be os an) (wsOb (turnF arN pn an sh (lN 1)) 8 1 pn ob an) (wsOs (turnF arN pn an sh (lN 1)) 8 1 pn os an) (wsOc (turnF arN pn an sh (lN 1)) 8 1 pn oc an) ar gi pg ag pn an prn (lN (X / 43046721)) arN (X % 43046721) (H).size (h8a) (har) (by omega)) (cwV 1 hts g_M_solve_given rfl rfl rfl (by decide +kernel) ⟨Nat.le_of_ble_eq_true rfl, Nat.le_of_ble_eq_true rfl⟩) (g_preV (f_recv (ci := 3) (q0 := 0) hK hP 0 rfl rfl rfl) hK hP hD) rfl rfl hl.1 rfl (lv_room (Nat.le_of_ble_eq_true rfl)) d_M_solve_53 ⟨Nat.le_of_ble_eq_true rfl, Nat.le_of_ble_eq_true rfl⟩) hS hA hD (fun H locs hP hD hS => ?_)
  refine W.cs (cells' := 0) (slots' := 0) rfl rfl ?_
  have hP : va_P D cls (fl [(wM kC ad (turnF arN pn an sh (lN 1)) (wsB (turnF arN pn an sh (lN 1)) 8 1 pn (2 ^ pn) be os an) (wsOb (turnF arN pn an sh (lN 1)) 8 1 pn ob an) (wsOs (turnF arN pn an sh (lN 1)) 8 1 pn os an) (wsOc (turnF arN pn an sh (lN 1)) 8 1 pn oc an) ar (gvF arN an (X % 43046721) gi) pg ag pn an (gvN an (X % 43046721) 0) (lN (X / 43046721)))]) H := hP
  have hD : va_D A (fl [(wM kC ad (turnF arN pn an sh (lN 1)) (wsB (turnF arN pn an sh (lN 1)) 8 1 pn (2 ^ pn) be os an) (wsOb (turnF arN pn an sh (lN 1)) 8 1 pn ob an) (wsOs (turnF arN pn an sh (lN 1)) 8 1 pn os an) (wsOc (turnF arN pn an sh (lN 1)) 8 1 pn oc an) ar (gvF arN an (X % 43046721) gi) pg ag pn an (gvN an (X % 43046721) 0) (lN (X / 43046721)))]) := hD
  refine lv_aload_n hx hb d_M_solve_56 rfl (lv_at hl 1 rfl) ?_
  refine lv_aload_n hx hb d_M_solve_57 rfl (lv_at hl 1 rfl) ?_
  refine fv_get (ci := 3) (v := .ref (ad 7)) (C := R_M) (T := F_M) (N := 13) hx hb hts (by decide +kernel) hown hK hP 0 0 rfl rfl rfl 7 (by decide) (hts (.fieldLink R_M 35 "PartShelves$Matching" "partGains" "[J") (by decide +kernel)) (fun _ h9 => h9) rfl d_M_solve_58 ?_
  refine lv_aload_n hx hb d_M_solve_61 rfl (lv_at hl 1 rfl) ?_
  refine fv_get (ci := 3) (v := .int (nI pn)) (C := R_M) (T := F_M) (N := 13) hx hb hts (by decide +kernel) hown hK hP 0 0 rfl rfl rfl 9 (by decide) (hts (.fieldLink R_M 41 "PartShelves$Matching" "partCount" "I") (by decide +kernel)) (fun _ h9 => h9) rfl d_M_solve_62 ?_
  refine g_callvA (va_runV (As := [.ref (ad 7), .int (nI pn)]) (rest := []) ⟨hx, hb, hml, hown, hts⟩ (c_M_gainsP l D kC ad (turnF arN pn an sh (lN 1)) (wsB (turnF arN pn an sh (lN 1)) 8 1 pn (2 ^ pn) be os an) (wsOb (turnF arN pn an sh (lN 1)) 8 1 pn ob an) (wsOs (turnF arN pn an sh (lN 1)) 8 1 pn os an) (wsOc (turnF arN pn an sh (lN 1)) 8 1 pn oc an) ar (gvF arN an (X % 43046721) gi) pg ag pn an (gvN an (X % 43046721) 0) (lN (X / 43046721)) pn (H).size (h8p)) (cwV 2 hts g_M_solve_gains rfl rfl rfl (by decide +kernel) ⟨Nat.le_of_ble_eq_true rfl, Nat.le_of_ble_eq_true rfl⟩) (g_preV (f_recv (ci := 3) (q0 := 0) hK hP 0 rfl rfl rfl) hK hP hD) rfl rfl hl.1 rfl (lv_room (Nat.le_of_ble_eq_true rfl)) d_M_solve_65 ⟨Nat.le_of_ble_eq_true rfl, Nat.le_of_ble_eq_true rfl⟩) hS hA hD (fun H locs hP hD hS => ?_)
  refine W.cs (cells' := 0) (slots' := 0) rfl rfl ?_
  have hP : va_P D cls (fl [(wM kC ad (turnF arN pn an sh (lN 1)) (wsB (turnF arN pn an sh (lN 1)) 8 1 pn (2 ^ pn) be os an) (wsOb (turnF arN pn an sh (lN 1)) 8 1 pn ob an) (wsOs (turnF arN pn an sh (lN 1)) 8 1 pn os an) (wsOc (turnF arN pn an sh (lN 1)) 8 1 pn oc an) ar (gvF arN an (X % 43046721) gi) (gnF (wsB (turnF arN pn an sh (lN 1)) 8 1 pn (2 ^ pn) be os an) pg (lN (X / 43046721)) (2 ^ pn) pn) ag pn an (gvN an (X % 43046721) 0) (lN (X / 43046721)))]) H := hP
  have hD : va_D A (fl [(wM kC ad (turnF arN pn an sh (lN 1)) (wsB (turnF arN pn an sh (lN 1)) 8 1 pn (2 ^ pn) be os an) (wsOb (turnF arN pn an sh (lN 1)) 8 1 pn ob an) (wsOs (turnF arN pn an sh (lN 1)) 8 1 pn os an) (wsOc (turnF arN pn an sh (lN 1)) 8 1 pn oc an) ar (gvF arN an (X % 43046721) gi) (gnF (wsB (turnF arN pn an sh (lN 1)) 8 1 pn (2 ^ pn) be os an) pg (lN (X / 43046721)) (2 ^ pn) pn) ag pn an (gvN an (X % 43046721) 0) (lN (X / 43046721)))]) := hD
  refine lv_aload_n hx hb d_M_solve_68 rfl (lv_at hl 1 rfl) ?_
  refine lv_aload_n hx hb d_M_solve_69 rfl (lv_at hl 1 rfl) ?_
  refine fv_get (ci := 3) (v := .int (nI pn)) (C := R_M) (T := F_M) (N := 13) hx hb hts (by decide +kernel) hown hK hP 0 0 rfl rfl rfl 9 (by decide) (hts (.fieldLink R_M 41 "PartShelves$Matching" "partCount" "I") (by decide +kernel)) (fun _ h9 => h9) rfl d_M_solve_70 ?_
  refine lv_iconst (v := nI 1) hx hb d_M_solve_73 (by decide) ?_
  refine lv_aload_n hx hb d_M_solve_74 rfl (lv_at hl 1 rfl) ?_
  refine fv_get (ci := 3) (v := .int (nI an)) (C := R_M) (T := F_M) (N := 13) hx hb hts (by decide +kernel) hown hK hP 0 0 rfl rfl rfl 10 (by decide) (hts (.fieldLink R_M 44 "PartShelves$Matching" "askCount" "I") (by decide +kernel)) (fun _ h9 => h9) rfl d_M_solve_75 ?_
  refine lv_bipush (v := nI 8) hx hb d_M_solve_78 (by decide +kernel) ?_
  refine g_callvA (va_runV (As := [.int (nI pn), .int (nI 1), .int (nI an), .int (nI 8)]) (rest := []) ⟨hx, hb, hml, hown, hts⟩ (c_M_weigh l D kC ad (turnF arN pn an sh (lN 1)) (wsB (turnF arN pn an sh (lN 1)) 8 1 pn (2 ^ pn) be os an) (wsOb (turnF arN pn an sh (lN 1)) 8 1 pn ob an) (wsOs (turnF arN pn an sh (lN 1)) 8 1 pn os an) (wsOc (turnF arN pn an sh (lN 1)) 8 1 pn oc an) ar (gvF arN an (X % 43046721) gi) (gnF (wsB (turnF arN pn an sh (lN 1)) 8 1 pn (2 ^ pn) be os an) pg (lN (X / 43046721)) (2 ^ pn) pn) ag pn an (gvN an (X % 43046721) 0) (lN (X / 43046721)) pn 1 an 8 (H).size (h8a) (h8p) (fun r hr i hi => by omega)) (cwV 4 hts g_M_solve_weigh rfl rfl rfl (by decide +kernel) ⟨Nat.le_of_ble_eq_true rfl, Nat.le_of_ble_eq_true rfl⟩) (g_preV (f_recv (ci := 3) (q0 := 0) hK hP 0 rfl rfl rfl) hK hP hD) rfl rfl hl.1 rfl (lv_room (Nat.le_of_ble_eq_true rfl)) d_M_solve_80 ⟨Nat.le_of_ble_eq_true rfl, Nat.le_of_ble_eq_true rfl⟩) hS hA hD (fun H locs hP hD hS => ?_)
  refine W.cs (cells' := 0) (slots' := 0) rfl rfl ?_
  have hP : va_P D cls (fl [(wM kC ad (turnF arN pn an sh (lN 1)) (wsB (turnF arN pn an sh (lN 1)) 1 8 an (2 ^ an) (wsB (turnF arN pn an sh (lN 1)) 8 1 pn (2 ^ pn) be os an) (wsOs (turnF arN pn an sh (lN 1)) 8 1 pn os an) pn) (wsOb (turnF arN pn an sh (lN 1)) 1 8 an (wsOb (turnF arN pn an sh (lN 1)) 8 1 pn ob an) pn) (wsOs (turnF arN pn an sh (lN 1)) 1 8 an (wsOs (turnF arN pn an sh (lN 1)) 8 1 pn os an) pn) (wsOc (turnF arN pn an sh (lN 1)) 1 8 an (wsOc (turnF arN pn an sh (lN 1)) 8 1 pn oc an) pn) ar (gvF arN an (X % 43046721) gi) (gnF (wsB (turnF arN pn an sh (lN 1)) 8 1 pn (2 ^ pn) be os an) pg (lN (X / 43046721)) (2 ^ pn) pn) ag pn an (gvN an (X % 43046721) 0) (lN (X / 43046721)))]) H := hP
  have hD : va_D A (fl [(wM kC ad (turnF arN pn an sh (lN 1)) (wsB (turnF arN pn an sh (lN 1)) 1 8 an (2 ^ an) (wsB (turnF arN pn an sh (lN 1)) 8 1 pn (2 ^ pn) be os an) (wsOs (turnF arN pn an sh (lN 1)) 8 1 pn os an) pn) (wsOb (turnF arN pn an sh (lN 1)) 1 8 an (wsOb (turnF arN pn an sh (lN 1)) 8 1 pn ob an) pn) (wsOs (turnF arN pn an sh (lN 1)) 1 8 an (wsOs (turnF arN pn an sh (lN 1)) 8 1 pn os an) pn) (wsOc (turnF arN pn an sh (lN 1)) 1 8 an (wsOc (turnF arN pn an sh (lN 1)) 8 1 pn oc an) pn) ar (gvF arN an (X % 43046721) gi) (gnF (wsB (turnF arN pn an sh (lN 1)) 8 1 pn (2 ^ pn) be os an) pg (lN (X / 43046721)) (2 ^ pn) pn) ag pn an (gvN an (X % 43046721) 0) (lN (X / 43046721)))]) := hD
  refine lv_aload_n hx hb d_M_solve_83 rfl (lv_at hl 1 rfl) ?_
  refine lv_aload_n hx hb d_M_solve_84 rfl (lv_at hl 1 rfl) ?_
  refine fv_get (ci := 3) (v := .ref (ad 8)) (C := R_M) (T := F_M) (N := 13) hx hb hts (by decide +kernel) hown hK hP 0 0 rfl rfl rfl 8 (by decide) (hts (.fieldLink R_M 38 "PartShelves$Matching" "askGains" "[J") (by decide +kernel)) (fun _ h9 => h9) rfl d_M_solve_85 ?_
  refine lv_aload_n hx hb d_M_solve_88 rfl (lv_at hl 1 rfl) ?_
  refine fv_get (ci := 3) (v := .int (nI an)) (C := R_M) (T := F_M) (N := 13) hx hb hts (by decide +kernel) hown hK hP 0 0 rfl rfl rfl 10 (by decide) (hts (.fieldLink R_M 44 "PartShelves$Matching" "askCount" "I") (by decide +kernel)) (fun _ h9 => h9) rfl d_M_solve_89 ?_
  refine g_callvA (va_runV (As := [.ref (ad 8), .int (nI an)]) (rest := []) ⟨hx, hb, hml, hown, hts⟩ (c_M_gainsA l D kC ad (turnF arN pn an sh (lN 1)) (wsB (turnF arN pn an sh (lN 1)) 1 8 an (2 ^ an) (wsB (turnF arN pn an sh (lN 1)) 8 1 pn (2 ^ pn) be os an) (wsOs (turnF arN pn an sh (lN 1)) 8 1 pn os an) pn) (wsOb (turnF arN pn an sh (lN 1)) 1 8 an (wsOb (turnF arN pn an sh (lN 1)) 8 1 pn ob an) pn) (wsOs (turnF arN pn an sh (lN 1)) 1 8 an (wsOs (turnF arN pn an sh (lN 1)) 8 1 pn os an) pn) (wsOc (turnF arN pn an sh (lN 1)) 1 8 an (wsOc (turnF arN pn an sh (lN 1)) 8 1 pn oc an) pn) ar (gvF arN an (X % 43046721) gi) (gnF (wsB (turnF arN pn an sh (lN 1)) 8 1 pn (2 ^ pn) be os an) pg (lN (X / 43046721)) (2 ^ pn) pn) ag pn an (gvN an (X % 43046721) 0) (lN (X / 43046721)) an (H).size (h8a)) (cwV 2 hts g_M_solve_gains rfl rfl rfl (by decide +kernel) ⟨Nat.le_of_ble_eq_true rfl, Nat.le_of_ble_eq_true rfl⟩) (g_preV (f_recv (ci := 3) (q0 := 0) hK hP 0 rfl rfl rfl) hK hP hD) rfl rfl hl.1 rfl (lv_room (Nat.le_of_ble_eq_true rfl)) d_M_solve_92 ⟨Nat.le_of_ble_eq_true rfl, Nat.le_of_ble_eq_true rfl⟩) hS hA hD (fun H locs hP hD hS => ?_)
  refine W.cs (cells' := 0) (slots' := 0) rfl rfl ?_
  have hP : va_P D cls (fl [(wM kC ad (turnF arN pn an sh (lN 1)) (wsB (turnF arN pn an sh (lN 1)) 1 8 an (2 ^ an) (wsB (turnF arN pn an sh (lN 1)) 8 1 pn (2 ^ pn) be os an) (wsOs (turnF arN pn an sh (lN 1)) 8 1 pn os an) pn) (wsOb (turnF arN pn an sh (lN 1)) 1 8 an (wsOb (turnF arN pn an sh (lN 1)) 8 1 pn ob an) pn) (wsOs (turnF arN pn an sh (lN 1)) 1 8 an (wsOs (turnF arN pn an sh (lN 1)) 8 1 pn os an) pn) (wsOc (turnF arN pn an sh (lN 1)) 1 8 an (wsOc (turnF arN pn an sh (lN 1)) 8 1 pn oc an) pn) ar (gvF arN an (X % 43046721) gi) (gnF (wsB (turnF arN pn an sh (lN 1)) 8 1 pn (2 ^ pn) be os an) pg (lN (X / 43046721)) (2 ^ pn) pn) (gnF (wsB (turnF arN pn an sh (lN 1)) 1 8 an (2 ^ an) (wsB (turnF arN pn an sh (lN 1)) 8 1 pn (2 ^ pn) be os an) (wsOs (turnF arN pn an sh (lN 1)) 8 1 pn os an) pn) ag (lN (X / 43046721)) (2 ^ an) an) pn an (gvN an (X % 43046721) 0) (lN (X / 43046721)))]) H := hP
  have hD : va_D A (fl [(wM kC ad (turnF arN pn an sh (lN 1)) (wsB (turnF arN pn an sh (lN 1)) 1 8 an (2 ^ an) (wsB (turnF arN pn an sh (lN 1)) 8 1 pn (2 ^ pn) be os an) (wsOs (turnF arN pn an sh (lN 1)) 8 1 pn os an) pn) (wsOb (turnF arN pn an sh (lN 1)) 1 8 an (wsOb (turnF arN pn an sh (lN 1)) 8 1 pn ob an) pn) (wsOs (turnF arN pn an sh (lN 1)) 1 8 an (wsOs (turnF arN pn an sh (lN 1)) 8 1 pn os an) pn) (wsOc (turnF arN pn an sh (lN 1)) 1 8 an (wsOc (turnF arN pn an sh (lN 1)) 8 1 pn oc an) pn) ar (gvF arN an (X % 43046721) gi) (gnF (wsB (turnF arN pn an sh (lN 1)) 8 1 pn (2 ^ pn) be os an) pg (lN (X / 43046721)) (2 ^ pn) pn) (gnF (wsB (turnF arN pn an sh (lN 1)) 1 8 an (2 ^ an) (wsB (turnF arN pn an sh (lN 1)) 8 1 pn (2 ^ pn) be os an) (wsOs (turnF arN pn an sh (lN 1)) 8 1 pn os an) pn) ag (lN (X / 43046721)) (2 ^ an) an) pn an (gvN an (X % 43046721) 0) (lN (X / 43046721)))]) := hD
  refine lv_aload_n hx hb d_M_solve_95 rfl (lv_at hl 1 rfl) ?_
  refine fv_get (ci := 3) (v := .int (nI (gvN an (X % 43046721) 0))) (C := R_M) (T := F_M) (N := 13) hx hb hts (by decide +kernel) hown hK hP 0 0 rfl rfl rfl 11 (by decide) (hts (.fieldLink R_M 47 "PartShelves$Matching" "pairCount" "I") (by decide +kernel)) (fun _ h9 => h9) rfl d_M_solve_96 ?_
  exact W.iret (v := nI (gvN an (X % 43046721) 0)) hx hb hr (fun t ht hW => by subst hAe; exact ⟨⟨(nI (gvN an (X % 43046721) 0)), (), rfl, rfl, by rw [ht]; exact hP, va_K.moved hW.alike hK, hD⟩, hS.F ht⟩) (by subst hAe; exact hS.2.2) d_M_solve_99

