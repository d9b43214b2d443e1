abbrev b_O_costOf : ByteArray := prog_9_method_29_code
def y_O_costOf : MethodName := ⟨"PartShelvesModel", "costOf", "(II)J"⟩
theorem d_O_costOf_0 : decode b_O_costOf 0 = .ok (.lconst 0, 1) := by decide +kernel
theorem d_O_costOf_1 : decode b_O_costOf 1 = .ok (.lstore_n 3, 1) := by decide +kernel
theorem d_O_costOf_2 : decode b_O_costOf 2 = .ok (.iconst 0, 1) := by decide +kernel
theorem d_O_costOf_3 : decode b_O_costOf 3 = .ok (.istore 5, 2) := by decide +kernel
theorem d_O_costOf_5 : decode b_O_costOf 5 = .ok (.iconst 0, 1) := by decide +kernel
theorem d_O_costOf_6 : decode b_O_costOf 6 = .ok (.istore 6, 2) := by decide +kernel
theorem d_O_costOf_8 : decode b_O_costOf 8 = .ok (.iload 6, 2) := by decide +kernel
theorem d_O_costOf_10 : decode b_O_costOf 10 = .ok (.iload_n 2, 1) := by decide +kernel
theorem d_O_costOf_11 : decode b_O_costOf 11 = .ok (.if_icmp .ge 129, 3) := by decide +kernel
theorem d_O_costOf_14 : decode b_O_costOf 14 = .ok (.iconst (-1), 1) := by decide +kernel
theorem d_O_costOf_15 : decode b_O_costOf 15 = .ok (.istore 7, 2) := by decide +kernel
theorem d_O_costOf_17 : decode b_O_costOf 17 = .ok (.iconst 0, 1) := by decide +kernel
theorem d_O_costOf_18 : decode b_O_costOf 18 = .ok (.istore 8, 2) := by decide +kernel
theorem d_O_costOf_20 : decode b_O_costOf 20 = .ok (.iload 8, 2) := by decide +kernel
theorem d_O_costOf_22 : decode b_O_costOf 22 = .ok (.aload_n 0, 1) := by decide +kernel
theorem d_O_costOf_23 : decode b_O_costOf 23 = .ok (.getfield 81, 3) := by decide +kernel
theorem d_O_costOf_26 : decode b_O_costOf 26 = .ok (.if_icmp .ge 81, 3) := by decide +kernel
theorem d_O_costOf_29 : decode b_O_costOf 29 = .ok (.aload_n 0, 1) := by decide +kernel
theorem d_O_costOf_30 : decode b_O_costOf 30 = .ok (.getfield 21, 3) := by decide +kernel
theorem d_O_costOf_33 : decode b_O_costOf 33 = .ok (.iload 8, 2) := by decide +kernel
theorem d_O_costOf_35 : decode b_O_costOf 35 = .ok (.iaload, 1) := by decide +kernel
theorem d_O_costOf_36 : decode b_O_costOf 36 = .ok (.iload_n 1, 1) := by decide +kernel
theorem d_O_costOf_37 : decode b_O_costOf 37 = .ok (.if_icmp .ne 26, 3) := by decide +kernel
theorem d_O_costOf_40 : decode b_O_costOf 40 = .ok (.aload_n 0, 1) := by decide +kernel
theorem d_O_costOf_41 : decode b_O_costOf 41 = .ok (.iload 8, 2) := by decide +kernel
theorem d_O_costOf_43 : decode b_O_costOf 43 = .ok (.invokevirtual 117, 3) := by decide +kernel
theorem d_O_costOf_46 : decode b_O_costOf 46 = .ok (.ifCond .ne 17, 3) := by decide +kernel
theorem d_O_costOf_49 : decode b_O_costOf 49 = .ok (.iload 5, 2) := by decide +kernel
theorem d_O_costOf_51 : decode b_O_costOf 51 = .ok (.iload 8, 2) := by decide +kernel
theorem d_O_costOf_53 : decode b_O_costOf 53 = .ok (.ishr, 1) := by decide +kernel
theorem d_O_costOf_54 : decode b_O_costOf 54 = .ok (.iconst 1, 1) := by decide +kernel
theorem d_O_costOf_55 : decode b_O_costOf 55 = .ok (.iand, 1) := by decide +kernel
theorem d_O_costOf_56 : decode b_O_costOf 56 = .ok (.ifCond .ne 7, 3) := by decide +kernel
theorem d_O_costOf_59 : decode b_O_costOf 59 = .ok (.iconst 1, 1) := by decide +kernel
theorem d_O_costOf_60 : decode b_O_costOf 60 = .ok (.goto 4, 3) := by decide +kernel
theorem d_O_costOf_63 : decode b_O_costOf 63 = .ok (.iconst 0, 1) := by decide +kernel
theorem d_O_costOf_64 : decode b_O_costOf 64 = .ok (.istore 9, 2) := by decide +kernel
theorem d_O_costOf_66 : decode b_O_costOf 66 = .ok (.iload 9, 2) := by decide +kernel
theorem d_O_costOf_68 : decode b_O_costOf 68 = .ok (.ifCond .eq 29, 3) := by decide +kernel
theorem d_O_costOf_71 : decode b_O_costOf 71 = .ok (.iload 7, 2) := by decide +kernel
theorem d_O_costOf_73 : decode b_O_costOf 73 = .ok (.ifCond .lt 19, 3) := by decide +kernel
theorem d_O_costOf_76 : decode b_O_costOf 76 = .ok (.aload_n 0, 1) := by decide +kernel
theorem d_O_costOf_77 : decode b_O_costOf 77 = .ok (.iload 8, 2) := by decide +kernel
theorem d_O_costOf_79 : decode b_O_costOf 79 = .ok (.invokevirtual 111, 3) := by decide +kernel
theorem d_O_costOf_82 : decode b_O_costOf 82 = .ok (.aload_n 0, 1) := by decide +kernel
theorem d_O_costOf_83 : decode b_O_costOf 83 = .ok (.iload 7, 2) := by decide +kernel
theorem d_O_costOf_85 : decode b_O_costOf 85 = .ok (.invokevirtual 111, 3) := by decide +kernel
theorem d_O_costOf_88 : decode b_O_costOf 88 = .ok (.lcmp, 1) := by decide +kernel
theorem d_O_costOf_89 : decode b_O_costOf 89 = .ok (.ifCond .ge 8, 3) := by decide +kernel
theorem d_O_costOf_92 : decode b_O_costOf 92 = .ok (.iload 8, 2) := by decide +kernel
theorem d_O_costOf_94 : decode b_O_costOf 94 = .ok (.goto 5, 3) := by decide +kernel
theorem d_O_costOf_97 : decode b_O_costOf 97 = .ok (.iload 7, 2) := by decide +kernel
theorem d_O_costOf_99 : decode b_O_costOf 99 = .ok (.istore 7, 2) := by decide +kernel
theorem d_O_costOf_101 : decode b_O_costOf 101 = .ok (.iinc 8 1, 3) := by decide +kernel
theorem d_O_costOf_104 : decode b_O_costOf 104 = .ok (.goto (-84), 3) := by decide +kernel
theorem d_O_costOf_107 : decode b_O_costOf 107 = .ok (.iload 7, 2) := by decide +kernel
theorem d_O_costOf_109 : decode b_O_costOf 109 = .ok (.ifCond .ge 7, 3) := by decide +kernel
theorem d_O_costOf_112 : decode b_O_costOf 112 = .ok (.ldc2_w 115, 3) := by decide +kernel
theorem d_O_costOf_115 : decode b_O_costOf 115 = .ok (.lreturn, 1) := by decide +kernel
theorem d_O_costOf_116 : decode b_O_costOf 116 = .ok (.iload 5, 2) := by decide +kernel
theorem d_O_costOf_118 : decode b_O_costOf 118 = .ok (.iconst 1, 1) := by decide +kernel
theorem d_O_costOf_119 : decode b_O_costOf 119 = .ok (.iload 7, 2) := by decide +kernel
theorem d_O_costOf_121 : decode b_O_costOf 121 = .ok (.ishl, 1) := by decide +kernel
theorem d_O_costOf_122 : decode b_O_costOf 122 = .ok (.ior, 1) := by decide +kernel
theorem d_O_costOf_123 : decode b_O_costOf 123 = .ok (.istore 5, 2) := by decide +kernel
theorem d_O_costOf_125 : decode b_O_costOf 125 = .ok (.lload_n 3, 1) := by decide +kernel
theorem d_O_costOf_126 : decode b_O_costOf 126 = .ok (.aload_n 0, 1) := by decide +kernel
theorem d_O_costOf_127 : decode b_O_costOf 127 = .ok (.iload 7, 2) := by decide +kernel
theorem d_O_costOf_129 : decode b_O_costOf 129 = .ok (.invokevirtual 111, 3) := by decide +kernel
theorem d_O_costOf_132 : decode b_O_costOf 132 = .ok (.ladd, 1) := by decide +kernel
theorem d_O_costOf_133 : decode b_O_costOf 133 = .ok (.lstore_n 3, 1) := by decide +kernel
theorem d_O_costOf_134 : decode b_O_costOf 134 = .ok (.iinc 6 1, 3) := by decide +kernel
theorem d_O_costOf_137 : decode b_O_costOf 137 = .ok (.goto (-129), 3) := by decide +kernel
theorem d_O_costOf_140 : decode b_O_costOf 140 = .ok (.lload_n 3, 1) := by decide +kernel
theorem d_O_costOf_141 : decode b_O_costOf 141 = .ok (.lreturn, 1) := by decide +kernel
def w_O_costOf : List Cond := .code y_O_costOf b_O_costOf 10 (some .long) :: ([.fieldLink "PartShelvesModel" 81 "PartShelvesModel" "parts" "I", .fieldLink "PartShelvesModel" 21 "PartShelvesModel" "kinds" "[I", .methodLink "PartShelvesModel" 117 ⟨"PartShelvesModel", "stateOf", "(I)I"⟩, .instanceMethod ⟨"PartShelvesModel", "stateOf", "(I)I"⟩, .selects "PartShelvesModel" ⟨"PartShelvesModel", "stateOf", "(I)I"⟩ ⟨"PartShelvesModel", "stateOf", "(I)I"⟩, .initialized "PartShelvesModel", .code ⟨"PartShelvesModel", "stateOf", "(I)I"⟩ prog_9_method_14_code 2 (some .int), .fieldLink "PartShelvesModel" 30 "PartShelvesModel" "states" "[I", .fieldLink "PartShelvesModel" 36 "PartShelvesModel" "days" "[I", .fieldLink "PartShelvesModel" 88 "PartShelvesModel" "today" "I", .methodLink "PartShelvesModel" 111 ⟨"PartShelvesModel", "priceOf", "(I)J"⟩, .instanceMethod ⟨"PartShelvesModel", "priceOf", "(I)J"⟩, .selects "PartShelvesModel" ⟨"PartShelvesModel", "priceOf", "(I)J"⟩ ⟨"PartShelvesModel", "priceOf", "(I)J"⟩, .code ⟨"PartShelvesModel", "priceOf", "(I)J"⟩ prog_9_method_12_code 5 (some .long), .fieldLink "PartShelvesModel" 97 "PartShelvesModel" "rows" "I", .fieldLink "PartShelvesModel" 7 "PartShelvesModel" "rowAges" "[I", .fieldLink "PartShelvesModel" 24 "PartShelvesModel" "ages" "[I", .fieldLink "PartShelvesModel" 13 "PartShelvesModel" "rowCents" "[J", .constantLong "PartShelvesModel" 115 (-1)] ++ u_ws R_O F_O 36)
set_option maxRecDepth 20000 in
theorem g_O_costOf_stateOf : GoodIn w_O_costOf (wsV R_O 117 R_O y_O_stateOf w_O_stateOf) := goodIn_p _ [7] rfl (by decide +kernel)
set_option maxRecDepth 20000 in
theorem g_O_costOf_priceOf : GoodIn w_O_costOf (wsV R_O 111 R_O y_O_priceOf w_O_priceOf) := goodIn_p _ [14] rfl (by decide +kernel)
set_option maxHeartbeats 4000000 in
set_option maxRecDepth 100000 in
theorem c_O_costOf (l : Launch) (D : va_G) (kC : Nat → ClassId) (ad : Nat → Nat) (td : Nat) (rn : Nat) (pn : Nat) (an : Nat) (jn : Nat) (tn : Nat) (bm : Int32) (fw : Int64) (gp : Nat) (ga : Nat) (bp : Int32) (fc : Int64) (fj : Nat) (rA : Nat → Nat) (rC : Nat → Nat) (ft : Nat → Int32) (kd : Nat → Nat) (aG : Nat → Nat) (sR : Nat → Nat) (sT : Nat → Nat) (wh : Nat → Nat) (dY : Nat → Nat) (pd : Nat → Nat) (cN : Nat → Nat) (mN : Nat → Nat) (sv : Nat → Int32) (nd : Nat → Nat) (wr : Nat → Nat) (tl : Nat → Nat) (lt : Nat → Int32) (lT : Nat → Nat) (lD : Nat → Nat) (gv : Nat → Int32) (gn : Nat → Int64) (od : Nat → Nat) (br : Nat → Nat) (k : Nat) (mm : Nat) (hk6 : k < 6) (hmm : mm ≤ 18) (hpn : pn ≤ 8) (hsT : ∀ j, sT j ≤ 3) (hdY : ∀ j, dY j ≤ 100000) (htd : td ≤ 100000) (hrn : rn ≤ 6) (hrA : ∀ j, rA j ≤ 1000) (haG : ∀ j, aG j ≤ 1000) (hkd : ∀ j, kd j < 6) (hrC : ∀ j, rC j ≤ 100000) : Met l y_O_costOf w_O_costOf ({ frames := 1, cells := 0, slots := 0, locals := 25 } : Room) (gPr cls D (tyL kC) [.ref (ad 0), .int (nI k), .int (nI mm)] (fl [(wO kC ad td rn pn an jn tn bm fw gp ga bp fc fj rA rC ft kd aG sR sT wh dY pd cN mN sv nd wr tl lt lT lD gv gn od br)])) (vp_Sl (fun r => r = encI (cost1 (fun z => selM kd sT dY (fun q => prM rA rC (aG q) rn) td k z pn) (fun q => prM rA rC (aG q) rn) mm))) 0 0 (fun _ => False) := by
  refine Met.ofW (cc := b_O_costOf) (maxL := 10) (ret := (some .long)) (by decide) rfl ?_
  intro p e s m args below meth c s₁ B hml hv
  obtain ⟨rfl, hP, hK⟩ := hv
  have hx := B.exec
  have hb := B.bytes
  have hr := B.returns
  have hts := atoms_spec (ws := w_O_costOf) B.pre
  have hown : s.vm.findClass R_O = some m.cls := findClass_of_methodNamed B.named
  have hlocks := B.notSynchronized
  have hl := lv_entry ([.ref (ad 0), .int (nI k), .int (nI mm)]) (n := 10) (Nat.le_of_ble_eq_true rfl)
  rw [lg_entry_eq]
  generalize (lg_sl ([.ref (ad 0), .int (nI k), .int (nI mm)]) ++ List.replicate (10 - (lg_sl ([.ref (ad 0), .int (nI k), .int (nI mm)])).length) Slot.unset).toArray = ls at hl ⊢
  have hl : lv_has ls 10 [(0, .ref (ad 0)), (1, .int (nI k)), (2, .int (nI mm))] := hl
  refine lv_lconst (v := lN 0) hx hb d_O_costOf_0 (by decide) ?_
  refine lv_lstore_n (lv' := [(3, .long (lN 0)), (0, .ref (ad 0)), (1, .int (nI k)), (2, .int (nI mm))]) hx hb d_O_costOf_1 rfl hl (by decide) rfl (fun ls hl => ?_)
  refine lv_iconst (v := nI 0) hx hb d_O_costOf_2 (by decide) ?_
  refine lv_istore (lv' := [(5, .int (nI 0)), (3, .long (lN 0)), (0, .ref (ad 0)), (1, .int (nI k)), (2, .int (nI mm))]) hx hb d_O_costOf_3 hl (by decide) rfl (fun ls hl => ?_)
  refine lv_iconst (v := nI 0) hx hb d_O_costOf_5 (by decide) ?_
  refine lv_istore (lv' := [(6, .int (nI 0)), (5, .int (nI 0)), (3, .long (lN 0)), (0, .ref (ad 0)), (1, .int (nI k)), (2, .int (nI mm))]) hx hb d_O_costOf_6 hl (by decide) rfl (fun ls hl => ?_)
  have L8 : ∀ (n8 : Nat) (n : Nat) (cc0 : Nat) (z : Nat), mm - n < n8 → n ≤ mm → (csT (fun z => selM kd sT dY (fun q => prM rA rC (aG q) rn) td k z pn) (fun q => prM rA rC (aG q) rn) n) = some (cc0, z) → z < 256 → ∀ (ls : Array Slot), lv_has ls 10 [(0, .ref (ad 0)), (1, .int (nI k)), (2, .int (nI mm)), (3, .long (lN cc0)), (5, .int (nI z)), (6, .int (nI n))] → W p l e (headSpec w_O_costOf ({ frames := 1, cells := 0, slots := 0, locals := 25 } : Room)).room s m ([.ref (ad 0), .int (nI k), .int (nI mm)] : List Value).toArray below meth c s.heap [] 0 0 (MQ below (vp_Sl (fun r => r = encI (cost1 (fun z => selM kd sT dY (fun q => prM rA rC (aG q) rn) td k z pn) (fun q => prM rA rC (aG q) rn) mm))) ([.ref (ad 0), .int (nI k), .int (nI mm)] : List Value).toArray s 0 0 (fun _ => False)) (F0 m 8 ls []) := by
    intro n8
    induction n8 with
    | zero =>
      intro n cc0 z hm
      exact absurd hm (Nat.not_lt_zero _)
    | succ n8 ih8 =>
      intro n cc0 z hm hnm hcz hz ls hl
      refine lv_iload hx hb d_O_costOf_8 (lv_at hl 5 rfl) ?_
      refine lv_iload_n hx hb d_O_costOf_10 rfl (lv_at hl 2 rfl) ?_
      refine nv_icmp_ge (tgt := 140) hx hb d_O_costOf_11 (by decide) (by omega) (by omega) (fun hn => ?_) (fun hn => ?_)
      · obtain rfl : mm = n := by omega
        refine lv_lload_n hx hb d_O_costOf_140 rfl (lv_at hl 3 rfl) ?_
        exact W.lret (v := lN cc0) hx hb hr (fun t ht hW => ⟨_, rfl, by simp only [cost1, hcz]; rfl, ht⟩) t_nil d_O_costOf_141
      · refine lv_iconst (v := (-1)) hx hb d_O_costOf_14 (by decide) ?_
        refine lv_istore (lv' := [(7, .int (-1)), (0, .ref (ad 0)), (1, .int (nI k)), (2, .int (nI mm)), (3, .long (lN cc0)), (5, .int (nI z)), (6, .int (nI n))]) hx hb d_O_costOf_15 hl (by decide) rfl (fun ls hl => ?_)
        refine lv_iconst (v := nI 0) hx hb d_O_costOf_17 (by decide) ?_
        refine lv_istore (lv' := [(8, .int (nI 0)), (7, .int (-1)), (0, .ref (ad 0)), (1, .int (nI k)), (2, .int (nI mm)), (3, .long (lN cc0)), (5, .int (nI z)), (6, .int (nI n))]) hx hb d_O_costOf_18 hl (by decide) rfl (fun ls hl => ?_)
        have L20 : ∀ (n20 : Nat) (q : Nat), pn - q < n20 → q ≤ pn → ∀ (ls : Array Slot), lv_has ls 10 [(0, .ref (ad 0)), (1, .int (nI k)), (2, .int (nI mm)), (3, .long (lN cc0)), (5, .int (nI z)), (6, .int (nI n)), (7, .int (pfI (selM kd sT dY (fun q => prM rA rC (aG q) rn) td k z q))), (8, .int (nI q))] → W p l e (headSpec w_O_costOf ({ frames := 1, cells := 0, slots := 0, locals := 25 } : Room)).room s m ([.ref (ad 0), .int (nI k), .int (nI mm)] : List Value).toArray below meth c s.heap [] 0 0 (MQ below (vp_Sl (fun r => r = encI (cost1 (fun z => selM kd sT dY (fun q => prM rA rC (aG q) rn) td k z pn) (fun q => prM rA rC (aG q) rn) mm))) ([.ref (ad 0), .int (nI k), .int (nI mm)] : List Value).toArray s 0 0 (fun _ => False)) (F0 m 20 ls []) := by
          intro n20
          induction n20 with
          | zero =>
            intro q hm
            exact absurd hm (Nat.not_lt_zero _)
          | succ n20 ih20 =>
            intro q hm hqp ls hl
            refine lv_iload hx hb d_O_costOf_20 (lv_at hl 7 rfl) ?_
            refine lv_aload_n hx hb d_O_costOf_22 rfl (lv_at hl 0 rfl) ?_
            refine fv_get (ci := 7) (v := .int (nI pn)) (C := R_O) (T := F_O) (N := 36) hx hb hts (by decide +kernel) hown hK hP 0 0 rfl rfl rfl 5 (by decide) (hts (.fieldLink R_O 81 "PartShelvesModel" "parts" "I") (by decide +kernel)) (fun _ h9 => h9) rfl d_O_costOf_23 ?_
            refine nv_icmp_ge (tgt := 107) hx hb d_O_costOf_26 (by decide) (by omega) (by omega) (fun hq => ?_) (fun hq => ?_)
            · obtain rfl : pn = q := by omega
              refine lv_iload hx hb d_O_costOf_107 (lv_at hl 6 rfl) ?_
              refine lv_if_ge (tgt := 116) hx hb d_O_costOf_109 (by decide) (fun h6 => ?_) (fun h6 => ?_)
              · obtain ⟨b, hs⟩ := pfI_pos (Int32.not_lt.mpr h6)
                have hbq := selM_lt _ _ hs
                refine lv_iload hx hb d_O_costOf_116 (lv_at hl 4 rfl) ?_
                refine lv_iconst (v := nI 1) hx hb d_O_costOf_118 (by decide) ?_
                refine lv_iload hx hb d_O_costOf_119 (lv_at hl 6 rfl) ?_
                refine nv_topi (y := nI b) (by rw [hs]; rfl) ?_
                refine lv_ishl hx hb d_O_costOf_121 ?_
                refine nv_topi (y := nI (2 ^ b)) (shl1 b (by omega)) ?_
                refine lv_ior hx hb d_O_costOf_122 ?_
                refine nv_topi (y := nI (z ||| 2 ^ b)) (nx_or _ _) ?_
                refine lv_istore (lv' := [(5, .int (nI (z ||| 2 ^ b))), (0, .ref (ad 0)), (1, .int (nI k)), (2, .int (nI mm)), (3, .long (lN cc0)), (6, .int (nI n)), (7, .int (pfI (selM kd sT dY (fun pn => prM rA rC (aG pn) rn) td k z pn))), (8, .int (nI pn))]) hx hb d_O_costOf_123 hl (by decide) rfl (fun ls hl => ?_)
                refine lv_lload_n hx hb d_O_costOf_125 rfl (lv_at hl 4 rfl) ?_
                refine lv_aload_n hx hb d_O_costOf_126 rfl (lv_at hl 1 rfl) ?_
                refine lv_iload hx hb d_O_costOf_127 (lv_at hl 6 rfl) ?_
                refine nv_topi (y := nI b) (by rw [hs]; rfl) ?_
                refine r_calll (W.runV (As := [.int (nI b)]) (rest := [.long (lN cc0)]) ⟨hx, hb, hml, hown, hts⟩ (c_O_prOf l D kC ad td rn pn an jn tn bm fw gp ga bp fc fj rA rC ft kd aG sR sT wh dY pd cN mN sv nd wr tl lt lT lD gv gn od br b (by omega) (hrn) (hrA) (haG)) (cwV 1 hts g_O_costOf_priceOf rfl rfl rfl (by decide +kernel) ⟨Nat.le_of_ble_eq_true rfl, Nat.le_of_ble_eq_true rfl⟩) (r_preV (f_recv (ci := 7) (q0 := 0) hK hP 0 rfl rfl rfl) hK hP) rfl rfl hl.1 rfl (lv_room (Nat.le_of_ble_eq_true rfl)) d_O_costOf_129 ⟨Nat.le_of_ble_eq_true rfl, Nat.le_of_ble_eq_true rfl⟩) ?_
                refine nv_ladd hx hb d_O_costOf_132 ?_
                refine lv_lstore_n (lv' := [(3, .long (lN (cc0 + prM rA rC (aG b) rn))), (5, .int (nI (z ||| 2 ^ b))), (0, .ref (ad 0)), (1, .int (nI k)), (2, .int (nI mm)), (6, .int (nI n)), (7, .int (pfI (selM kd sT dY (fun pn => prM rA rC (aG pn) rn) td k z pn))), (8, .int (nI pn))]) hx hb d_O_costOf_133 rfl hl (by decide) rfl (fun ls hl => ?_)
                refine lv_iinc (v := nI (n + 1)) (lv' := [(6, .int (nI (n + 1))), (3, .long (lN (cc0 + prM rA rC (aG b) rn))), (5, .int (nI (z ||| 2 ^ b))), (0, .ref (ad 0)), (1, .int (nI k)), (2, .int (nI mm)), (7, .int (pfI (selM kd sT dY (fun pn => prM rA rC (aG pn) rn) td k z pn))), (8, .int (nI pn))]) hx hb d_O_costOf_134 hl (k := 5) rfl (nI_1 n) (by decide) rfl (fun ls hl => ?_)
                refine lv_goto (tgt := 8) hx hb d_O_costOf_137 (by decide) ?_
                exact ih8 (n + 1) (cc0 + prM rA rC (aG b) rn) (z ||| 2 ^ b) (by omega) (hn) (by simp only [csT, hcz, hs]) (or_lt' z hz b (by omega)) ls (lv_sub hl [3, 4, 5, 1, 2, 0] rfl)
              · have hs := pfI_neg (fun b e => by have := selM_lt _ _ e; omega) (Int32.not_le.mp h6)
                refine lv_ldc2 (v := (-1)) hx hb hown (hts (.constantLong R_O 115 (-1)) (by decide +kernel)) d_O_costOf_112 ?_
                exact W.lret (v := (-1)) hx hb hr (fun t ht hW => ⟨_, rfl, by obtain ⟨d, rfl⟩ : ∃ d, mm = n + 1 + d := ⟨mm - (n + 1), by omega⟩; simp only [cost1]; rw [csT_none (show (csT (fun z => selM kd sT dY (fun q => prM rA rC (aG q) rn) td k z pn) (fun q => prM rA rC (aG q) rn) (n + 1)) = none by simp only [csT, hcz, hs])]; rfl, ht⟩) t_nil d_O_costOf_115
            · refine lv_aload_n hx hb d_O_costOf_29 rfl (lv_at hl 0 rfl) ?_
              refine fv_get (ci := 7) (v := .ref (ad 4)) (C := R_O) (T := F_O) (N := 36) hx hb hts (by decide +kernel) hown hK hP 0 0 rfl rfl rfl 6 (by decide) (hts (.fieldLink R_O 21 "PartShelvesModel" "kinds" "[I") (by decide +kernel)) (fun _ h9 => h9) rfl d_O_costOf_30 ?_
              refine lv_iload hx hb d_O_costOf_33 (lv_at hl 7 rfl) ?_
              refine fa_ialdN hx hb hK hP 0 4 0 rfl rfl rfl (by omega) (by decide) d_O_costOf_35 ?_
              refine lv_iload_n hx hb d_O_costOf_36 rfl (lv_at hl 1 rfl) ?_
              refine nv_icmp_ne (tgt := 63) hx hb d_O_costOf_37 (by decide) (by have := hkd q; omega) (by omega) (fun h1 => ?_) (fun h1 => ?_)
              · refine lv_iconst (v := nI 0) hx hb d_O_costOf_63 (by decide) ?_
                refine lv_istore (lv' := [(9, .int (nI 0)), (0, .ref (ad 0)), (1, .int (nI k)), (2, .int (nI mm)), (3, .long (lN cc0)), (5, .int (nI z)), (6, .int (nI n)), (7, .int (pfI (selM kd sT dY (fun q => prM rA rC (aG q) rn) td k z q))), (8, .int (nI q))]) hx hb d_O_costOf_64 hl (by decide) rfl (fun ls hl => ?_)
                refine lv_iload hx hb d_O_costOf_66 (lv_at hl 0 rfl) ?_
                refine nv_if_eq (tgt := 97) hx hb d_O_costOf_68 (by decide) (by decide) (fun c1 => ?_) (fun c1 => ?_)
                · refine lv_iload hx hb d_O_costOf_97 (lv_at hl 7 rfl) ?_
                  refine lv_istore (lv' := [(7, .int (pfI (selM kd sT dY (fun q => prM rA rC (aG q) rn) td k z q))), (9, .int (nI 0)), (0, .ref (ad 0)), (1, .int (nI k)), (2, .int (nI mm)), (3, .long (lN cc0)), (5, .int (nI z)), (6, .int (nI n)), (8, .int (nI q))]) hx hb d_O_costOf_99 hl (by decide) rfl (fun ls hl => ?_)
                  have el2 : pfI (selM kd sT dY (fun q => prM rA rC (aG q) rn) td k z q) = pfI (selM kd sT dY (fun q => prM rA rC (aG q) rn) td k z (q + 1)) := congrArg pfI (by first | exact (if_neg (fun y => by have y2 := y.2; rw [hs] at y2; have y3 := of_decide_eq_true y2; exact absurd ((lN_le (Nat.lt_of_le_of_lt (prM_le hrC _) (by decide)) (Nat.lt_of_le_of_lt (prM_le hrC _) (by decide))).mp h5) (Nat.not_le.mpr y3))).symm | exact (if_neg (fun y => h3 y.1.2.2)).symm | exact (if_neg (fun y => h2 y.1.2.1)).symm | exact (if_neg (fun y => h1 y.1.1)).symm)
                  have hl : lv_has ls 10 [(7, .int (pfI (selM kd sT dY (fun q => prM rA rC (aG q) rn) td k z (q + 1)))), (9, .int (nI 0)), (0, .ref (ad 0)), (1, .int (nI k)), (2, .int (nI mm)), (3, .long (lN cc0)), (5, .int (nI z)), (6, .int (nI n)), (8, .int (nI q))] := by rw [← el2]; exact hl
                  refine lv_iinc (v := nI (q + 1)) (lv' := [(8, .int (nI (q + 1))), (7, .int (pfI (selM kd sT dY (fun q => prM rA rC (aG q) rn) td k z (q + 1)))), (9, .int (nI 0)), (0, .ref (ad 0)), (1, .int (nI k)), (2, .int (nI mm)), (3, .long (lN cc0)), (5, .int (nI z)), (6, .int (nI n))]) hx hb d_O_costOf_101 hl (k := 8) rfl (nI_1 q) (by decide) rfl (fun ls hl => ?_)
                  refine lv_goto (tgt := 20) hx hb d_O_costOf_104 (by decide) ?_
                  exact ih20 (q + 1) (by omega) (hq) ls (lv_sub hl [3, 4, 5, 6, 7, 8, 1, 0] rfl)
                · exact absurd c1 (by decide)
              · refine lv_aload_n hx hb d_O_costOf_40 rfl (lv_at hl 0 rfl) ?_
                refine lv_iload hx hb d_O_costOf_41 (lv_at hl 7 rfl) ?_
                refine r_calli (W.runV (As := [.int (nI q)]) (rest := []) ⟨hx, hb, hml, hown, hts⟩ (c_O_stOf l D kC ad td rn pn an jn tn bm fw gp ga bp fc fj rA rC ft kd aG sR sT wh dY pd cN mN sv nd wr tl lt lT lD gv gn od br q (by omega) (hsT) (hdY) (htd)) (cwV 1 hts g_O_costOf_stateOf rfl rfl rfl (by decide +kernel) ⟨Nat.le_of_ble_eq_true rfl, Nat.le_of_ble_eq_true rfl⟩) (r_preV (f_recv (ci := 7) (q0 := 0) hK hP 0 rfl rfl rfl) hK hP) rfl rfl hl.1 rfl (lv_room (Nat.le_of_ble_eq_true rfl)) d_O_costOf_43 ⟨Nat.le_of_ble_eq_true rfl, Nat.le_of_ble_eq_true rfl⟩) ?_
                refine nv_if_ne (tgt := 63) hx hb d_O_costOf_46 (by decide) (Nat.lt_of_le_of_lt (stOn_le (hsT _)) (by decide)) (fun h2 => ?_) (fun h2 => ?_)
                · refine lv_iconst (v := nI 0) hx hb d_O_costOf_63 (by decide) ?_
                  refine lv_istore (lv' := [(9, .int (nI 0)), (0, .ref (ad 0)), (1, .int (nI k)), (2, .int (nI mm)), (3, .long (lN cc0)), (5, .int (nI z)), (6, .int (nI n)), (7, .int (pfI (selM kd sT dY (fun q => prM rA rC (aG q) rn) td k z q))), (8, .int (nI q))]) hx hb d_O_costOf_64 hl (by decide) rfl (fun ls hl => ?_)
                  refine lv_iload hx hb d_O_costOf_66 (lv_at hl 0 rfl) ?_
                  refine nv_if_eq (tgt := 97) hx hb d_O_costOf_68 (by decide) (by decide) (fun c3 => ?_) (fun c3 => ?_)
                  · refine lv_iload hx hb d_O_costOf_97 (lv_at hl 7 rfl) ?_
                    refine lv_istore (lv' := [(7, .int (pfI (selM kd sT dY (fun q => prM rA rC (aG q) rn) td k z q))), (9, .int (nI 0)), (0, .ref (ad 0)), (1, .int (nI k)), (2, .int (nI mm)), (3, .long (lN cc0)), (5, .int (nI z)), (6, .int (nI n)), (8, .int (nI q))]) hx hb d_O_costOf_99 hl (by decide) rfl (fun ls hl => ?_)
                    have el4 : pfI (selM kd sT dY (fun q => prM rA rC (aG q) rn) td k z q) = pfI (selM kd sT dY (fun q => prM rA rC (aG q) rn) td k z (q + 1)) := congrArg pfI (by first | exact (if_neg (fun y => by have y2 := y.2; rw [hs] at y2; have y3 := of_decide_eq_true y2; exact absurd ((lN_le (Nat.lt_of_le_of_lt (prM_le hrC _) (by decide)) (Nat.lt_of_le_of_lt (prM_le hrC _) (by decide))).mp h5) (Nat.not_le.mpr y3))).symm | exact (if_neg (fun y => h3 y.1.2.2)).symm | exact (if_neg (fun y => h2 y.1.2.1)).symm | exact (if_neg (fun y => h1 y.1.1)).symm)
                    have hl : lv_has ls 10 [(7, .int (pfI (selM kd sT dY (fun q => prM rA rC (aG q) rn) td k z (q + 1)))), (9, .int (nI 0)), (0, .ref (ad 0)), (1, .int (nI k)), (2, .int (nI mm)), (3, .long (lN cc0)), (5, .int (nI z)), (6, .int (nI n)), (8, .int (nI q))] := by rw [← el4]; exact hl
                    refine lv_iinc (v := nI (q + 1)) (lv' := [(8, .int (nI (q + 1))), (7, .int (pfI (selM kd sT dY (fun q => prM rA rC (aG q) rn) td k z (q + 1)))), (9, .int (nI 0)), (0, .ref (ad 0)), (1, .int (nI k)), (2, .int (nI mm)), (3, .long (lN cc0)), (5, .int (nI z)), (6, .int (nI n))]) hx hb d_O_costOf_101 hl (k := 8) rfl (nI_1 q) (by decide) rfl (fun ls hl => ?_)
                    refine lv_goto (tgt := 20) hx hb d_O_costOf_104 (by decide) ?_
                    exact ih20 (q + 1) (by omega) (hq) ls (lv_sub hl [3, 4, 5, 6, 7, 8, 1, 0] rfl)
                  · exact absurd c3 (by decide)
                · refine lv_iload hx hb d_O_costOf_49 (lv_at hl 4 rfl) ?_
                  refine lv_iload hx hb d_O_costOf_51 (lv_at hl 7 rfl) ?_
                  refine lv_ishr hx hb d_O_costOf_53 ?_
                  refine lv_iconst (v := nI 1) hx hb d_O_costOf_54 (by decide) ?_
                  refine lv_iand hx hb d_O_costOf_55 ?_
                  refine nv_topi (y := nI (z / 2 ^ q % 2)) (bitI (by omega) (by omega)) ?_
                  refine nv_if_ne (tgt := 63) hx hb d_O_costOf_56 (by decide) (by omega) (fun h3 => ?_) (fun h3 => ?_)
                  · refine lv_iconst (v := nI 0) hx hb d_O_costOf_63 (by decide) ?_
                    refine lv_istore (lv' := [(9, .int (nI 0)), (0, .ref (ad 0)), (1, .int (nI k)), (2, .int (nI mm)), (3, .long (lN cc0)), (5, .int (nI z)), (6, .int (nI n)), (7, .int (pfI (selM kd sT dY (fun q => prM rA rC (aG q) rn) td k z q))), (8, .int (nI q))]) hx hb d_O_costOf_64 hl (by decide) rfl (fun ls hl => ?_)
                    refine lv_iload hx hb d_O_costOf_66 (lv_at hl 0 rfl) ?_
                    refine nv_if_eq (tgt := 97) hx hb d_O_costOf_68 (by decide) (by decide) (fun c5 => ?_) (fun c5 => ?_)
                    · refine lv_iload hx hb d_O_costOf_97 (lv_at hl 7 rfl) ?_
                      refine lv_istore (lv' := [(7, .int (pfI (selM kd sT dY (fun q => prM rA rC (aG q) rn) td k z q))), (9, .int (nI 0)), (0, .ref (ad 0)), (1, .int (nI k)), (2, .int (nI mm)), (3, .long (lN cc0)), (5, .int (nI z)), (6, .int (nI n)), (8, .int (nI q))]) hx hb d_O_costOf_99 hl (by decide) rfl (fun ls hl => ?_)
                      have el6 : pfI (selM kd sT dY (fun q => prM rA rC (aG q) rn) td k z q) = pfI (selM kd sT dY (fun q => prM rA rC (aG q) rn) td k z (q + 1)) := congrArg pfI (by first | exact (if_neg (fun y => by have y2 := y.2; rw [hs] at y2; have y3 := of_decide_eq_true y2; exact absurd ((lN_le (Nat.lt_of_le_of_lt (prM_le hrC _) (by decide)) (Nat.lt_of_le_of_lt (prM_le hrC _) (by decide))).mp h5) (Nat.not_le.mpr y3))).symm | exact (if_neg (fun y => h3 y.1.2.2)).symm | exact (if_neg (fun y => h2 y.1.2.1)).symm | exact (if_neg (fun y => h1 y.1.1)).symm)
                      have hl : lv_has ls 10 [(7, .int (pfI (selM kd sT dY (fun q => prM rA rC (aG q) rn) td k z (q + 1)))), (9, .int (nI 0)), (0, .ref (ad 0)), (1, .int (nI k)), (2, .int (nI mm)), (3, .long (lN cc0)), (5, .int (nI z)), (6, .int (nI n)), (8, .int (nI q))] := by rw [← el6]; exact hl
                      refine lv_iinc (v := nI (q + 1)) (lv' := [(8, .int (nI (q + 1))), (7, .int (pfI (selM kd sT dY (fun q => prM rA rC (aG q) rn) td k z (q + 1)))), (9, .int (nI 0)), (0, .ref (ad 0)), (1, .int (nI k)), (2, .int (nI mm)), (3, .long (lN cc0)), (5, .int (nI z)), (6, .int (nI n))]) hx hb d_O_costOf_101 hl (k := 8) rfl (nI_1 q) (by decide) rfl (fun ls hl => ?_)
                      refine lv_goto (tgt := 20) hx hb d_O_costOf_104 (by decide) ?_
                      exact ih20 (q + 1) (by omega) (hq) ls (lv_sub hl [3, 4, 5, 6, 7, 8, 1, 0] rfl)
                    · exact absurd c5 (by decide)
                  · refine lv_iconst (v := nI 1) hx hb d_O_costOf_59 (by decide) ?_
                    refine lv_goto (tgt := 64) hx hb d_O_costOf_60 (by decide) ?_
                    refine lv_istore (lv' := [(9, .int (nI 1)), (0, .ref (ad 0)), (1, .int (nI k)), (2, .int (nI mm)), (3, .long (lN cc0)), (5, .int (nI z)), (6, .int (nI n)), (7, .int (pfI (selM kd sT dY (fun q => prM rA rC (aG q) rn) td k z q))), (8, .int (nI q))]) hx hb d_O_costOf_64 hl (by decide) rfl (fun ls hl => ?_)
                    refine lv_iload hx hb d_O_costOf_66 (lv_at hl 0 rfl) ?_
                    refine nv_if_eq (tgt := 97) hx hb d_O_costOf_68 (by decide) (by decide) (fun c7 => ?_) (fun c7 => ?_)
                    · exact absurd c7 (by decide)
                    · refine lv_iload hx hb d_O_costOf_71 (lv_at hl 7 rfl) ?_
                      refine lv_if_lt (tgt := 92) hx hb d_O_costOf_73 (by decide) (fun h4 => ?_) (fun h4 => ?_)
                      · have hs := pfI_neg (fun b e => by have := selM_lt _ _ e; omega) h4
                        refine lv_iload hx hb d_O_costOf_92 (lv_at hl 8 rfl) ?_
                        refine lv_goto (tgt := 99) hx hb d_O_costOf_94 (by decide) ?_
                        refine lv_istore (lv' := [(7, .int (nI q)), (9, .int (nI 1)), (0, .ref (ad 0)), (1, .int (nI k)), (2, .int (nI mm)), (3, .long (lN cc0)), (5, .int (nI z)), (6, .int (nI n)), (8, .int (nI q))]) hx hb d_O_costOf_99 hl (by decide) rfl (fun ls hl => ?_)
                        have el8 : nI q = pfI (selM kd sT dY (fun q => prM rA rC (aG q) rn) td k z (q + 1)) := show pfI (some q) = _ from congrArg pfI (by first | exact (if_pos ⟨⟨h1, h2, h3⟩, by rw [hs]; rfl⟩).symm | exact (if_pos ⟨⟨h1, h2, h3⟩, by rw [hs]; exact decide_eq_true (Nat.lt_of_not_le (fun y => h5 ((lN_le (Nat.lt_of_le_of_lt (prM_le hrC _) (by decide)) (Nat.lt_of_le_of_lt (prM_le hrC _) (by decide))).mpr y)))⟩).symm)
                        have hl : lv_has ls 10 [(7, .int (pfI (selM kd sT dY (fun q => prM rA rC (aG q) rn) td k z (q + 1)))), (9, .int (nI 1)), (0, .ref (ad 0)), (1, .int (nI k)), (2, .int (nI mm)), (3, .long (lN cc0)), (5, .int (nI z)), (6, .int (nI n)), (8, .int (nI q))] := by rw [← el8]; exact hl
                        refine lv_iinc (v := nI (q + 1)) (lv' := [(8, .int (nI (q + 1))), (7, .int (pfI (selM kd sT dY (fun q => prM rA rC (aG q) rn) td k z (q + 1)))), (9, .int (nI 1)), (0, .ref (ad 0)), (1, .int (nI k)), (2, .int (nI mm)), (3, .long (lN cc0)), (5, .int (nI z)), (6, .int (nI n))]) hx hb d_O_costOf_101 hl (k := 8) rfl (nI_1 q) (by decide) rfl (fun ls hl => ?_)
                        refine lv_goto (tgt := 20) hx hb d_O_costOf_104 (by decide) ?_
                        exact ih20 (q + 1) (by omega) (hq) ls (lv_sub hl [3, 4, 5, 6, 7, 8, 1, 0] rfl)
                      · obtain ⟨b, hs⟩ := pfI_pos h4
                        have hbq := selM_lt _ _ hs
                        refine lv_aload_n hx hb d_O_costOf_76 rfl (lv_at hl 1 rfl) ?_
                        refine lv_iload hx hb d_O_costOf_77 (lv_at hl 8 rfl) ?_
                        refine r_calll (W.runV (As := [.int (nI q)]) (rest := []) ⟨hx, hb, hml, hown, hts⟩ (c_O_prOf l D kC ad td rn pn an jn tn bm fw gp ga bp fc fj rA rC ft kd aG sR sT wh dY pd cN mN sv nd wr tl lt lT lD gv gn od br q (by omega) (hrn) (hrA) (haG)) (cwV 1 hts g_O_costOf_priceOf rfl rfl rfl (by decide +kernel) ⟨Nat.le_of_ble_eq_true rfl, Nat.le_of_ble_eq_true rfl⟩) (r_preV (f_recv (ci := 7) (q0 := 0) hK hP 0 rfl rfl rfl) hK hP) rfl rfl hl.1 rfl (lv_room (Nat.le_of_ble_eq_true rfl)) d_O_costOf_79 ⟨Nat.le_of_ble_eq_true rfl, Nat.le_of_ble_eq_true rfl⟩) ?_
                        refine lv_aload_n hx hb d_O_costOf_82 rfl (lv_at hl 1 rfl) ?_
                        refine lv_iload hx hb d_O_costOf_83 (lv_at hl 7 rfl) ?_
                        refine nv_topi (y := nI b) (by rw [hs]; rfl) ?_
                        refine r_calll (W.runV (As := [.int (nI b)]) (rest := [.long (lN (prM rA rC (aG q) rn))]) ⟨hx, hb, hml, hown, hts⟩ (c_O_prOf l D kC ad td rn pn an jn tn bm fw gp ga bp fc fj rA rC ft kd aG sR sT wh dY pd cN mN sv nd wr tl lt lT lD gv gn od br b (by omega) (hrn) (hrA) (haG)) (cwV 1 hts g_O_costOf_priceOf rfl rfl rfl (by decide +kernel) ⟨Nat.le_of_ble_eq_true rfl, Nat.le_of_ble_eq_true rfl⟩) (r_preV (f_recv (ci := 7) (q0 := 0) hK hP 0 rfl rfl rfl) hK hP) rfl rfl hl.1 rfl (lv_room (Nat.le_of_ble_eq_true rfl)) d_O_costOf_85 ⟨Nat.le_of_ble_eq_true rfl, Nat.le_of_ble_eq_true rfl⟩) ?_
                        refine lc_ge (tgt := 97) hx hb d_O_costOf_88 d_O_costOf_89 (by decide) (fun h5 => ?_) (fun h5 => ?_)
                        · refine lv_iload hx hb d_O_costOf_97 (lv_at hl 7 rfl) ?_
                          refine lv_istore (lv' := [(7, .int (pfI (selM kd sT dY (fun q => prM rA rC (aG q) rn) td k z q))), (9, .int (nI 1)), (0, .ref (ad 0)), (1, .int (nI k)), (2, .int (nI mm)), (3, .long (lN cc0)), (5, .int (nI z)), (6, .int (nI n)), (8, .int (nI q))]) hx hb d_O_costOf_99 hl (by decide) rfl (fun ls hl => ?_)
                          have el9 : pfI (selM kd sT dY (fun q => prM rA rC (aG q) rn) td k z q) = pfI (selM kd sT dY (fun q => prM rA rC (aG q) rn) td k z (q + 1)) := congrArg pfI (by first | exact (if_neg (fun y => by have y2 := y.2; rw [hs] at y2; have y3 := of_decide_eq_true y2; exact absurd ((lN_le (Nat.lt_of_le_of_lt (prM_le hrC _) (by decide)) (Nat.lt_of_le_of_lt (prM_le hrC _) (by decide))).mp h5) (Nat.not_le.mpr y3))).symm | exact (if_neg (fun y => h3 y.1.2.2)).symm | exact (if_neg (fun y => h2 y.1.2.1)).symm | exact (if_neg (fun y => h1 y.1.1)).symm)
                          have hl : lv_has ls 10 [(7, .int (pfI (selM kd sT dY (fun q => prM rA rC (aG q) rn) td k z (q + 1)))), (9, .int (nI 1)), (0, .ref (ad 0)), (1, .int (nI k)), (2, .int (nI mm)), (3, .long (lN cc0)), (5, .int (nI z)), (6, .int (nI n)), (8, .int (nI q))] := by rw [← el9]; exact hl
                          refine lv_iinc (v := nI (q + 1)) (lv' := [(8, .int (nI (q + 1))), (7, .int (pfI (selM kd sT dY (fun q => prM rA rC (aG q) rn) td k z (q + 1)))), (9, .int (nI 1)), (0, .ref (ad 0)), (1, .int (nI k)), (2, .int (nI mm)), (3, .long (lN cc0)), (5, .int (nI z)), (6, .int (nI n))]) hx hb d_O_costOf_101 hl (k := 8) rfl (nI_1 q) (by decide) rfl (fun ls hl => ?_)
                          refine lv_goto (tgt := 20) hx hb d_O_costOf_104 (by decide) ?_
                          exact ih20 (q + 1) (by omega) (hq) ls (lv_sub hl [3, 4, 5, 6, 7, 8, 1, 0] rfl)
                        · refine lv_iload hx hb d_O_costOf_92 (lv_at hl 8 rfl) ?_
                          refine lv_goto (tgt := 99) hx hb d_O_costOf_94 (by decide) ?_
                          refine lv_istore (lv' := [(7, .int (nI q)), (9, .int (nI 1)), (0, .ref (ad 0)), (1, .int (nI k)), (2, .int (nI mm)), (3, .long (lN cc0)), (5, .int (nI z)), (6, .int (nI n)), (8, .int (nI q))]) hx hb d_O_costOf_99 hl (by decide) rfl (fun ls hl => ?_)
                          have el10 : nI q = pfI (selM kd sT dY (fun q => prM rA rC (aG q) rn) td k z (q + 1)) := show pfI (some q) = _ from congrArg pfI (by first | exact (if_pos ⟨⟨h1, h2, h3⟩, by rw [hs]; rfl⟩).symm | exact (if_pos ⟨⟨h1, h2, h3⟩, by rw [hs]; exact decide_eq_true (Nat.lt_of_not_le (fun y => h5 ((lN_le (Nat.lt_of_le_of_lt (prM_le hrC _) (by decide)) (Nat.lt_of_le_of_lt (prM_le hrC _) (by decide))).mpr y)))⟩).symm)
                          have hl : lv_has ls 10 [(7, .int (pfI (selM kd sT dY (fun q => prM rA rC (aG q) rn) td k z (q + 1)))), (9, .int (nI 1)), (0, .ref (ad 0)), (1, .int (nI k)), (2, .int (nI mm)), (3, .long (lN cc0)), (5, .int (nI z)), (6, .int (nI n)), (8, .int (nI q))] := by rw [← el10]; exact hl
                          refine lv_iinc (v := nI (q + 1)) (lv' := [(8, .int (nI (q + 1))), (7, .int (pfI (selM kd sT dY (fun q => prM rA rC (aG q) rn) td k z (q + 1)))), (9, .int (nI 1)), (0, .ref (ad 0)), (1, .int (nI k)), (2, .int (nI mm)), (3, .long (lN cc0)), (5, .int (nI z)), (6, .int (nI n))]) hx hb d_O_costOf_101 hl (k := 8) rfl (nI_1 q) (by decide) rfl (fun ls hl => ?_)
                          refine lv_goto (tgt := 20) hx hb d_O_costOf_104 (by decide) ?_
                          exact ih20 (q + 1) (by omega) (hq) ls (lv_sub hl [3, 4, 5, 6, 7, 8, 1, 0] rfl)
        exact L20 _ 0 (Nat.lt_succ_self _) (Nat.zero_le _) ls (lv_sub hl [2, 3, 4, 5, 6, 7, 1, 0] rfl)
  exact L8 _ 0 0 0 (Nat.lt_succ_self _) (Nat.zero_le _) (rfl) (by decide) ls (lv_sub hl [3, 4, 5, 2, 1, 0] rfl)

abbrev b_O_costOfJobs : ByteArray := prog_9_method_30_code
def y_O_costOfJobs : MethodName := ⟨"PartShelvesModel", "costOfJobs", "(I)J"⟩
theorem d_O_costOfJobs_0 : decode b_O_costOfJobs 0 = .ok (.lconst 0, 1) := by decide +kernel
theorem d_O_costOfJobs_1 : decode b_O_costOfJobs 1 = .ok (.lstore_n 2, 1) := by decide +kernel
theorem d_O_costOfJobs_2 : decode b_O_costOfJobs 2 = .ok (.iconst 0, 1) := by decide +kernel
theorem d_O_costOfJobs_3 : decode b_O_costOfJobs 3 = .ok (.istore 4, 2) := by decide +kernel
theorem d_O_costOfJobs_5 : decode b_O_costOfJobs 5 = .ok (.iload 4, 2) := by decide +kernel
theorem d_O_costOfJobs_7 : decode b_O_costOfJobs 7 = .ok (.bipush 6, 2) := by decide +kernel
theorem d_O_costOfJobs_9 : decode b_O_costOfJobs 9 = .ok (.if_icmp .ge 88, 3) := by decide +kernel
theorem d_O_costOfJobs_12 : decode b_O_costOfJobs 12 = .ok (.iconst 0, 1) := by decide +kernel
theorem d_O_costOfJobs_13 : decode b_O_costOfJobs 13 = .ok (.istore 5, 2) := by decide +kernel
theorem d_O_costOfJobs_15 : decode b_O_costOfJobs 15 = .ok (.iconst 0, 1) := by decide +kernel
theorem d_O_costOfJobs_16 : decode b_O_costOfJobs 16 = .ok (.istore 6, 2) := by decide +kernel
theorem d_O_costOfJobs_18 : decode b_O_costOfJobs 18 = .ok (.iload 6, 2) := by decide +kernel
theorem d_O_costOfJobs_20 : decode b_O_costOfJobs 20 = .ok (.aload_n 0, 1) := by decide +kernel
theorem d_O_costOfJobs_21 : decode b_O_costOfJobs 21 = .ok (.getfield 159, 3) := by decide +kernel
theorem d_O_costOfJobs_24 : decode b_O_costOfJobs 24 = .ok (.if_icmp .ge 41, 3) := by decide +kernel
theorem d_O_costOfJobs_27 : decode b_O_costOfJobs 27 = .ok (.iload 5, 2) := by decide +kernel
theorem d_O_costOfJobs_29 : decode b_O_costOfJobs 29 = .ok (.iload_n 1, 1) := by decide +kernel
theorem d_O_costOfJobs_30 : decode b_O_costOfJobs 30 = .ok (.iload 6, 2) := by decide +kernel
theorem d_O_costOfJobs_32 : decode b_O_costOfJobs 32 = .ok (.ishr, 1) := by decide +kernel
theorem d_O_costOfJobs_33 : decode b_O_costOfJobs 33 = .ok (.iconst 1, 1) := by decide +kernel
theorem d_O_costOfJobs_34 : decode b_O_costOfJobs 34 = .ok (.iand, 1) := by decide +kernel
theorem d_O_costOfJobs_35 : decode b_O_costOfJobs 35 = .ok (.iconst 1, 1) := by decide +kernel
theorem d_O_costOfJobs_36 : decode b_O_costOfJobs 36 = .ok (.if_icmp .ne 19, 3) := by decide +kernel
theorem d_O_costOfJobs_39 : decode b_O_costOfJobs 39 = .ok (.aload_n 0, 1) := by decide +kernel
theorem d_O_costOfJobs_40 : decode b_O_costOfJobs 40 = .ok (.getfield 51, 3) := by decide +kernel
theorem d_O_costOfJobs_43 : decode b_O_costOfJobs 43 = .ok (.bipush 6, 2) := by decide +kernel
theorem d_O_costOfJobs_45 : decode b_O_costOfJobs 45 = .ok (.iload 6, 2) := by decide +kernel
theorem d_O_costOfJobs_47 : decode b_O_costOfJobs 47 = .ok (.imul, 1) := by decide +kernel
theorem d_O_costOfJobs_48 : decode b_O_costOfJobs 48 = .ok (.iload 4, 2) := by decide +kernel
theorem d_O_costOfJobs_50 : decode b_O_costOfJobs 50 = .ok (.iadd, 1) := by decide +kernel
theorem d_O_costOfJobs_51 : decode b_O_costOfJobs 51 = .ok (.iaload, 1) := by decide +kernel
theorem d_O_costOfJobs_52 : decode b_O_costOfJobs 52 = .ok (.goto 4, 3) := by decide +kernel
theorem d_O_costOfJobs_55 : decode b_O_costOfJobs 55 = .ok (.iconst 0, 1) := by decide +kernel
theorem d_O_costOfJobs_56 : decode b_O_costOfJobs 56 = .ok (.iadd, 1) := by decide +kernel
theorem d_O_costOfJobs_57 : decode b_O_costOfJobs 57 = .ok (.istore 5, 2) := by decide +kernel
theorem d_O_costOfJobs_59 : decode b_O_costOfJobs 59 = .ok (.iinc 6 1, 3) := by decide +kernel
theorem d_O_costOfJobs_62 : decode b_O_costOfJobs 62 = .ok (.goto (-44), 3) := by decide +kernel
theorem d_O_costOfJobs_65 : decode b_O_costOfJobs 65 = .ok (.aload_n 0, 1) := by decide +kernel
theorem d_O_costOfJobs_66 : decode b_O_costOfJobs 66 = .ok (.iload 4, 2) := by decide +kernel
theorem d_O_costOfJobs_68 : decode b_O_costOfJobs 68 = .ok (.iload 5, 2) := by decide +kernel
theorem d_O_costOfJobs_70 : decode b_O_costOfJobs 70 = .ok (.invokevirtual 164, 3) := by decide +kernel
theorem d_O_costOfJobs_73 : decode b_O_costOfJobs 73 = .ok (.lstore 6, 2) := by decide +kernel
theorem d_O_costOfJobs_75 : decode b_O_costOfJobs 75 = .ok (.lload 6, 2) := by decide +kernel
theorem d_O_costOfJobs_77 : decode b_O_costOfJobs 77 = .ok (.lconst 0, 1) := by decide +kernel
theorem d_O_costOfJobs_78 : decode b_O_costOfJobs 78 = .ok (.lcmp, 1) := by decide +kernel
theorem d_O_costOfJobs_79 : decode b_O_costOfJobs 79 = .ok (.ifCond .ge 7, 3) := by decide +kernel
theorem d_O_costOfJobs_82 : decode b_O_costOfJobs 82 = .ok (.ldc2_w 115, 3) := by decide +kernel
theorem d_O_costOfJobs_85 : decode b_O_costOfJobs 85 = .ok (.lreturn, 1) := by decide +kernel
theorem d_O_costOfJobs_86 : decode b_O_costOfJobs 86 = .ok (.lload_n 2, 1) := by decide +kernel
theorem d_O_costOfJobs_87 : decode b_O_costOfJobs 87 = .ok (.lload 6, 2) := by decide +kernel
theorem d_O_costOfJobs_89 : decode b_O_costOfJobs 89 = .ok (.ladd, 1) := by decide +kernel
theorem d_O_costOfJobs_90 : decode b_O_costOfJobs 90 = .ok (.lstore_n 2, 1) := by decide +kernel
theorem d_O_costOfJobs_91 : decode b_O_costOfJobs 91 = .ok (.iinc 4 1, 3) := by decide +kernel
theorem d_O_costOfJobs_94 : decode b_O_costOfJobs 94 = .ok (.goto (-89), 3) := by decide +kernel
theorem d_O_costOfJobs_97 : decode b_O_costOfJobs 97 = .ok (.lload_n 2, 1) := by decide +kernel
theorem d_O_costOfJobs_98 : decode b_O_costOfJobs 98 = .ok (.lreturn, 1) := by decide +kernel
def w_O_costOfJobs : List Cond := .code y_O_costOfJobs b_O_costOfJobs 8 (some .long) :: ([.fieldLink "PartShelvesModel" 159 "PartShelvesModel" "jobs" "I", .fieldLink "PartShelvesModel" 51 "PartShelvesModel" "needed" "[I", .methodLink "PartShelvesModel" 164 ⟨"PartShelvesModel", "costOf", "(II)J"⟩, .instanceMethod ⟨"PartShelvesModel", "costOf", "(II)J"⟩, .selects "PartShelvesModel" ⟨"PartShelvesModel", "costOf", "(II)J"⟩ ⟨"PartShelvesModel", "costOf", "(II)J"⟩, .initialized "PartShelvesModel", .code ⟨"PartShelvesModel", "costOf", "(II)J"⟩ prog_9_method_29_code 10 (some .long), .fieldLink "PartShelvesModel" 81 "PartShelvesModel" "parts" "I", .fieldLink "PartShelvesModel" 21 "PartShelvesModel" "kinds" "[I", .methodLink "PartShelvesModel" 117 ⟨"PartShelvesModel", "stateOf", "(I)I"⟩, .instanceMethod ⟨"PartShelvesModel", "stateOf", "(I)I"⟩, .selects "PartShelvesModel" ⟨"PartShelvesModel", "stateOf", "(I)I"⟩ ⟨"PartShelvesModel", "stateOf", "(I)I"⟩, .code ⟨"PartShelvesModel", "stateOf", "(I)I"⟩ prog_9_method_14_code 2 (some .int), .fieldLink "PartShelvesModel" 30 "PartShelvesModel" "states" "[I", .fieldLink "PartShelvesModel" 36 "PartShelvesModel" "days" "[I", .fieldLink "PartShelvesModel" 88 "PartShelvesModel" "today" "I", .methodLink "PartShelvesModel" 111 ⟨"PartShelvesModel", "priceOf", "(I)J"⟩, .instanceMethod ⟨"PartShelvesModel", "priceOf", "(I)J"⟩, .selects "PartShelvesModel" ⟨"PartShelvesModel", "priceOf", "(I)J"⟩ ⟨"PartShelvesModel", "priceOf", "(I)J"⟩, .code ⟨"PartShelvesModel", "priceOf", "(I)J"⟩ prog_9_method_12_code 5 (some .long), .fieldLink "PartShelvesModel" 97 "PartShelvesModel" "rows" "I", .fieldLink "PartShelvesModel" 7 "PartShelvesModel" "rowAges" "[I", .fieldLink "PartShelvesModel" 24 "PartShelvesModel" "ages" "[I", .fieldLink "PartShelvesModel" 13 "PartShelvesModel" "rowCents" "[J", .constantLong "PartShelvesModel" 115 (-1)] ++ u_ws R_O F_O 36)
set_option maxRecDepth 20000 in
theorem g_O_costOfJobs_costOf : GoodIn w_O_costOfJobs (wsV R_O 164 R_O y_O_costOf w_O_costOf) := goodIn_p _ [7, 13, 20] rfl (by decide +kernel)
set_option maxHeartbeats 4000000 in
set_option maxRecDepth 100000 in
theorem c_O_cj (l : Launch) (D : va_G) (kC : Nat → ClassId) (ad : Nat → Nat) (td : Nat) (rn : Nat) (pn : Nat) (an : Nat) (jn : Nat) (tn : Nat) (bm : Int32) (fw : Int64) (gp : Nat) (ga : Nat) (bp : Int32) (fc : Int64) (fj : Nat) (rA : Nat → Nat) (rC : Nat → Nat) (ft : Nat → Int32) (kd : Nat → Nat) (aG : Nat → Nat) (sR : Nat → Nat) (sT : Nat → Nat) (wh : Nat → Nat) (dY : Nat → Nat) (pd : Nat → Nat) (cN : Nat → Nat) (mN : Nat → Nat) (sv : Nat → Int32) (nd : Nat → Nat) (wr : Nat → Nat) (tl : Nat → Nat) (lt : Nat → Int32) (lT : Nat → Nat) (lD : Nat → Nat) (gv : Nat → Int32) (gn : Nat → Int64) (od : Nat → Nat) (br : Nat → Nat) (z : Nat) (hz : z < 64) (hjn : jn ≤ 6) (hnd : ∀ j, nd j ≤ 3) (hpn : pn ≤ 8) (hsT : ∀ j, sT j ≤ 3) (hdY : ∀ j, dY j ≤ 100000) (htd : td ≤ 100000) (hrn : rn ≤ 6) (hrA : ∀ j, rA j ≤ 1000) (haG : ∀ j, aG j ≤ 1000) (hkd : ∀ j, kd j < 6) (hrC : ∀ j, rC j ≤ 100000) : Met l y_O_costOfJobs w_O_costOfJobs ({ frames := 2, cells := 0, slots := 0, locals := 54 } : Room) (gPr cls D (tyL kC) [.ref (ad 0), .int (nI z)] (fl [(wO kC ad td rn pn an jn tn bm fw gp ga bp fc fj rA rC ft kd aG sR sT wh dY pd cN mN sv nd wr tl lt lT lD gv gn od br)])) (vp_Sl (fun r => r = encI (cjM (fun k => cost1 (fun z => selM kd sT dY (fun q => prM rA rC (aG q) rn) td k z pn) (fun q => prM rA rC (aG q) rn) (mnM nd z k jn)) 6))) 0 0 (fun _ => False) := by
  refine Met.ofW (cc := b_O_costOfJobs) (maxL := 8) (ret := (some .long)) (by decide) rfl ?_
  intro p e s m args below meth c s₁ B hml hv
  obtain ⟨rfl, hP, hK⟩ := hv
  have hx := B.exec
  have hb := B.bytes
  have hr := B.returns
  have hts := atoms_spec (ws := w_O_costOfJobs) B.pre
  have hown : s.vm.findClass R_O = some m.cls := findClass_of_methodNamed B.named
  have hlocks := B.notSynchronized
  have hl := lv_entry ([.ref (ad 0), .int (nI z)]) (n := 8) (Nat.le_of_ble_eq_true rfl)
  rw [lg_entry_eq]
  generalize (lg_sl ([.ref (ad 0), .int (nI z)]) ++ List.replicate (8 - (lg_sl ([.ref (ad 0), .int (nI z)])).length) Slot.unset).toArray = ls at hl ⊢
  have hl : lv_has ls 8 [(0, .ref (ad 0)), (1, .int (nI z))] := hl
  refine lv_lconst (v := lN 0) hx hb d_O_costOfJobs_0 (by decide) ?_
  refine lv_lstore_n (lv' := [(2, .long (lN 0)), (0, .ref (ad 0)), (1, .int (nI z))]) hx hb d_O_costOfJobs_1 rfl hl (by decide) rfl (fun ls hl => ?_)
  refine lv_iconst (v := nI 0) hx hb d_O_costOfJobs_2 (by decide) ?_
  refine lv_istore (lv' := [(4, .int (nI 0)), (2, .long (lN 0)), (0, .ref (ad 0)), (1, .int (nI z))]) hx hb d_O_costOfJobs_3 hl (by decide) rfl (fun ls hl => ?_)
  have L5 : ∀ (n5 : Nat) (k : Nat) (c0 : Nat), 6 - k < n5 → k ≤ 6 → cjM (fun k => cost1 (fun z => selM kd sT dY (fun q => prM rA rC (aG q) rn) td k z pn) (fun q => prM rA rC (aG q) rn) (mnM nd z k jn)) k = some c0 → ∀ (ls : Array Slot), lv_has ls 8 [(0, .ref (ad 0)), (1, .int (nI z)), (2, .long (lN c0)), (4, .int (nI k))] → W p l e (headSpec w_O_costOfJobs ({ frames := 2, cells := 0, slots := 0, locals := 54 } : Room)).room s m ([.ref (ad 0), .int (nI z)] : List Value).toArray below meth c s.heap [] 0 0 (MQ below (vp_Sl (fun r => r = encI (cjM (fun k => cost1 (fun z => selM kd sT dY (fun q => prM rA rC (aG q) rn) td k z pn) (fun q => prM rA rC (aG q) rn) (mnM nd z k jn)) 6))) ([.ref (ad 0), .int (nI z)] : List Value).toArray s 0 0 (fun _ => False)) (F0 m 5 ls []) := by
    intro n5
    induction n5 with
    | zero =>
      intro k c0 hm
      exact absurd hm (Nat.not_lt_zero _)
    | succ n5 ih5 =>
      intro k c0 hm hk6 hcj ls hl
      refine lv_iload hx hb d_O_costOfJobs_5 (lv_at hl 3 rfl) ?_
      refine lv_bipush (v := nI 6) hx hb d_O_costOfJobs_7 (by decide +kernel) ?_
      refine nv_icmp_ge (tgt := 97) hx hb d_O_costOfJobs_9 (by decide) (by omega) (by omega) (fun hk => ?_) (fun hk => ?_)
      · obtain rfl : k = 6 := by omega
        refine lv_lload_n hx hb d_O_costOfJobs_97 rfl (lv_at hl 2 rfl) ?_
        exact W.lret (v := lN c0) hx hb hr (fun t ht hW => ⟨_, rfl, by rw [hcj]; rfl, ht⟩) t_nil d_O_costOfJobs_98
      · refine lv_iconst (v := nI 0) hx hb d_O_costOfJobs_12 (by decide) ?_
        refine lv_istore (lv' := [(5, .int (nI 0)), (0, .ref (ad 0)), (1, .int (nI z)), (2, .long (lN c0)), (4, .int (nI k))]) hx hb d_O_costOfJobs_13 hl (by decide) rfl (fun ls hl => ?_)
        refine lv_iconst (v := nI 0) hx hb d_O_costOfJobs_15 (by decide) ?_
        refine lv_istore (lv' := [(6, .int (nI 0)), (5, .int (nI 0)), (0, .ref (ad 0)), (1, .int (nI z)), (2, .long (lN c0)), (4, .int (nI k))]) hx hb d_O_costOfJobs_16 hl (by decide) rfl (fun ls hl => ?_)
        have L18 : ∀ (n18 : Nat) (j : Nat), jn - j < n18 → j ≤ jn → ∀ (ls : Array Slot), lv_has ls 8 [(0, .ref (ad 0)), (1, .int (nI z)), (2, .long (lN c0)), (4, .int (nI k)), (5, .int (nI (mnM nd z k j))), (6, .int (nI j))] → W p l e (headSpec w_O_costOfJobs ({ frames := 2, cells := 0, slots := 0, locals := 54 } : Room)).room s m ([.ref (ad 0), .int (nI z)] : List Value).toArray below meth c s.heap [] 0 0 (MQ below (vp_Sl (fun r => r = encI (cjM (fun k => cost1 (fun z => selM kd sT dY (fun q => prM rA rC (aG q) rn) td k z pn) (fun q => prM rA rC (aG q) rn) (mnM nd z k jn)) 6))) ([.ref (ad 0), .int (nI z)] : List Value).toArray s 0 0 (fun _ => False)) (F0 m 18 ls []) := by
          intro n18
          induction n18 with
          | zero =>
            intro j hm
            exact absurd hm (Nat.not_lt_zero _)
          | succ n18 ih18 =>
            intro j hm hjj ls hl
            refine lv_iload hx hb d_O_costOfJobs_18 (lv_at hl 5 rfl) ?_
            refine lv_aload_n hx hb d_O_costOfJobs_20 rfl (lv_at hl 0 rfl) ?_
            refine fv_get (ci := 7) (v := .int (nI jn)) (C := R_O) (T := F_O) (N := 36) hx hb hts (by decide +kernel) hown hK hP 0 0 rfl rfl rfl 17 (by decide) (hts (.fieldLink R_O 159 "PartShelvesModel" "jobs" "I") (by decide +kernel)) (fun _ h9 => h9) rfl d_O_costOfJobs_21 ?_
            refine nv_icmp_ge (tgt := 65) hx hb d_O_costOfJobs_24 (by decide) (by omega) (by omega) (fun hj => ?_) (fun hj => ?_)
            · obtain rfl : jn = j := by omega
              have hmn := mnM_le (z := z) (k := k) hnd jn
              refine lv_aload_n hx hb d_O_costOfJobs_65 rfl (lv_at hl 0 rfl) ?_
              refine lv_iload hx hb d_O_costOfJobs_66 (lv_at hl 3 rfl) ?_
              refine lv_iload hx hb d_O_costOfJobs_68 (lv_at hl 4 rfl) ?_
              refine r_calll (W.runV (As := [.int (nI k), .int (nI (mnM nd z k jn))]) (rest := []) ⟨hx, hb, hml, hown, hts⟩ (c_O_costOf l D kC ad td rn pn an jn tn bm fw gp ga bp fc fj rA rC ft kd aG sR sT wh dY pd cN mN sv nd wr tl lt lT lD gv gn od br k (mnM nd z k jn) (hk) (by omega) (hpn) (hsT) (hdY) (htd) (hrn) (hrA) (haG) (hkd) (hrC)) (cwV 2 hts g_O_costOfJobs_costOf rfl rfl rfl (by decide +kernel) ⟨Nat.le_of_ble_eq_true rfl, Nat.le_of_ble_eq_true rfl⟩) (r_preV (f_recv (ci := 7) (q0 := 0) hK hP 0 rfl rfl rfl) hK hP) rfl rfl hl.1 rfl (lv_room (Nat.le_of_ble_eq_true rfl)) d_O_costOfJobs_70 ⟨Nat.le_of_ble_eq_true rfl, Nat.le_of_ble_eq_true rfl⟩) ?_
              rcases ho : cost1 (fun z => selM kd sT dY (fun q => prM rA rC (aG q) rn) td k z pn) (fun q => prM rA rC (aG q) rn) (mnM nd z k jn) with _ | o
              · refine nv_topl (y := (-1)) (rfl) ?_
                refine lv_lstore (lv' := [(6, .long (-1)), (0, .ref (ad 0)), (1, .int (nI z)), (2, .long (lN c0)), (4, .int (nI k)), (5, .int (nI (mnM nd z k jn)))]) hx hb d_O_costOfJobs_73 hl (by decide) rfl (fun ls hl => ?_)
                refine lv_lload hx hb d_O_costOfJobs_75 (lv_at hl 0 rfl) ?_
                refine lv_lconst (v := lN 0) hx hb d_O_costOfJobs_77 (by decide) ?_
                refine lc_ge (tgt := 86) hx hb d_O_costOfJobs_78 d_O_costOfJobs_79 (by decide) (fun hc => ?_) (fun hc => ?_)
                · exact absurd hc (by decide)
                · refine lv_ldc2 (v := (-1)) hx hb hown (hts (.constantLong R_O 115 (-1)) (by decide +kernel)) d_O_costOfJobs_82 ?_
                  exact W.lret (v := (-1)) hx hb hr (fun t ht hW => ⟨_, rfl, by obtain ⟨d, hd⟩ : ∃ d, 6 = k + 1 + d := ⟨6 - (k + 1), by omega⟩; rw [hd, cjM_none (show cjM (fun k => cost1 (fun z => selM kd sT dY (fun q => prM rA rC (aG q) rn) td k z pn) (fun q => prM rA rC (aG q) rn) (mnM nd z k jn)) (k + 1) = none by simp only [cjM, hcj, ho])]; rfl, ht⟩) t_nil d_O_costOfJobs_85
              · refine nv_topl (y := lN o) (rfl) ?_
                have hob : o ≤ 1800000 := by
                  simp only [cost1] at ho
                  split at ho
                  · cases ho
                  · rename_i x hx1; cases ho; exact Nat.le_trans (csT_b (B := 100000) (fun b => prM_le hrC _) (fun z b h => by have := selM_lt _ _ h; omega) _ _ hx1).1 (by omega)
                refine lv_lstore (lv' := [(6, .long (lN o)), (0, .ref (ad 0)), (1, .int (nI z)), (2, .long (lN c0)), (4, .int (nI k)), (5, .int (nI (mnM nd z k jn)))]) hx hb d_O_costOfJobs_73 hl (by decide) rfl (fun ls hl => ?_)
                refine lv_lload hx hb d_O_costOfJobs_75 (lv_at hl 0 rfl) ?_
                refine lv_lconst (v := lN 0) hx hb d_O_costOfJobs_77 (by decide) ?_
                refine lc_ge (tgt := 86) hx hb d_O_costOfJobs_78 d_O_costOfJobs_79 (by decide) (fun hc => ?_) (fun hc => ?_)
                · refine lv_lload_n hx hb d_O_costOfJobs_86 rfl (lv_at hl 3 rfl) ?_
                  refine lv_lload hx hb d_O_costOfJobs_87 (lv_at hl 0 rfl) ?_
                  refine nv_ladd hx hb d_O_costOfJobs_89 ?_
                  refine lv_lstore_n (lv' := [(2, .long (lN (c0 + o))), (6, .long (lN o)), (0, .ref (ad 0)), (1, .int (nI z)), (4, .int (nI k)), (5, .int (nI (mnM nd z k jn)))]) hx hb d_O_costOfJobs_90 rfl hl (by decide) rfl (fun ls hl => ?_)
                  refine lv_iinc (v := nI (k + 1)) (lv' := [(4, .int (nI (k + 1))), (2, .long (lN (c0 + o))), (6, .long (lN o)), (0, .ref (ad 0)), (1, .int (nI z)), (5, .int (nI (mnM nd z k jn)))]) hx hb d_O_costOfJobs_91 hl (k := 4) rfl (nI_1 k) (by decide) rfl (fun ls hl => ?_)
                  refine lv_goto (tgt := 5) hx hb d_O_costOfJobs_94 (by decide) ?_
                  exact ih5 (k + 1) (c0 + o) (by omega) (hk) (by simp only [cjM, hcj, ho]) ls (lv_sub hl [3, 4, 1, 0] rfl)
                · exact absurd ((lN_le (by decide) (by omega)).mpr (Nat.zero_le o)) hc
            · have hmn := mnM_le (z := z) (k := k) hnd j
              refine lv_iload hx hb d_O_costOfJobs_27 (lv_at hl 4 rfl) ?_
              refine lv_iload_n hx hb d_O_costOfJobs_29 rfl (lv_at hl 1 rfl) ?_
              refine lv_iload hx hb d_O_costOfJobs_30 (lv_at hl 5 rfl) ?_
              refine lv_ishr hx hb d_O_costOfJobs_32 ?_
              refine lv_iconst (v := nI 1) hx hb d_O_costOfJobs_33 (by decide) ?_
              refine lv_iand hx hb d_O_costOfJobs_34 ?_
              refine nv_topi (y := nI (z / 2 ^ j % 2)) (bitI (by omega) (by omega)) ?_
              refine lv_iconst (v := nI 1) hx hb d_O_costOfJobs_35 (by decide) ?_
              refine nv_icmp_ne (tgt := 55) hx hb d_O_costOfJobs_36 (by decide) (by omega) (by omega) (fun hb1 => ?_) (fun hb1 => ?_)
              · refine lv_iconst (v := nI 0) hx hb d_O_costOfJobs_55 (by decide) ?_
                refine nv_iadd hx hb d_O_costOfJobs_56 ?_
                refine lv_istore (lv' := [(5, .int (nI (mnM nd z k j + 0))), (0, .ref (ad 0)), (1, .int (nI z)), (2, .long (lN c0)), (4, .int (nI k)), (6, .int (nI j))]) hx hb d_O_costOfJobs_57 hl (by decide) rfl (fun ls hl => ?_)
                have el1 : nI (mnM nd z k j + 0) = nI (mnM nd z k (j + 1)) := congrArg nI (show mnM nd z k j + 0 = _ by simp only [mnM]; rw [if_neg hb1])
                have hl : lv_has ls 8 [(5, .int (nI (mnM nd z k (j + 1)))), (0, .ref (ad 0)), (1, .int (nI z)), (2, .long (lN c0)), (4, .int (nI k)), (6, .int (nI j))] := by rw [← el1]; exact hl
                refine lv_iinc (v := nI (j + 1)) (lv' := [(6, .int (nI (j + 1))), (5, .int (nI (mnM nd z k (j + 1)))), (0, .ref (ad 0)), (1, .int (nI z)), (2, .long (lN c0)), (4, .int (nI k))]) hx hb d_O_costOfJobs_59 hl (k := 5) rfl (nI_1 j) (by decide) rfl (fun ls hl => ?_)
                refine lv_goto (tgt := 18) hx hb d_O_costOfJobs_62 (by decide) ?_
                exact ih18 (j + 1) (by omega) (hj) ls (lv_sub hl [2, 3, 4, 5, 1, 0] rfl)
              · refine lv_aload_n hx hb d_O_costOfJobs_39 rfl (lv_at hl 0 rfl) ?_
                refine fv_get (ci := 7) (v := .ref (ad 14)) (C := R_O) (T := F_O) (N := 36) hx hb hts (by decide +kernel) hown hK hP 0 0 rfl rfl rfl 18 (by decide) (hts (.fieldLink R_O 51 "PartShelvesModel" "needed" "[I") (by decide +kernel)) (fun _ h9 => h9) rfl d_O_costOfJobs_40 ?_
                refine lv_bipush (v := nI 6) hx hb d_O_costOfJobs_43 (by decide +kernel) ?_
                refine lv_iload hx hb d_O_costOfJobs_45 (lv_at hl 5 rfl) ?_
                refine nv_imul hx hb d_O_costOfJobs_47 ?_
                refine lv_iload hx hb d_O_costOfJobs_48 (lv_at hl 3 rfl) ?_
                refine nv_iadd hx hb d_O_costOfJobs_50 ?_
                refine fa_ialdN hx hb hK hP 0 14 0 rfl rfl rfl (by omega) (by decide) d_O_costOfJobs_51 ?_
                refine lv_goto (tgt := 56) hx hb d_O_costOfJobs_52 (by decide) ?_
                refine nv_iadd hx hb d_O_costOfJobs_56 ?_
                refine lv_istore (lv' := [(5, .int (nI (mnM nd z k j + nd (6 * j + k)))), (0, .ref (ad 0)), (1, .int (nI z)), (2, .long (lN c0)), (4, .int (nI k)), (6, .int (nI j))]) hx hb d_O_costOfJobs_57 hl (by decide) rfl (fun ls hl => ?_)
                have el2 : nI (mnM nd z k j + nd (6 * j + k)) = nI (mnM nd z k (j + 1)) := congrArg nI (show mnM nd z k j + _ = _ by simp only [mnM]; rw [if_pos hb1])
                have hl : lv_has ls 8 [(5, .int (nI (mnM nd z k (j + 1)))), (0, .ref (ad 0)), (1, .int (nI z)), (2, .long (lN c0)), (4, .int (nI k)), (6, .int (nI j))] := by rw [← el2]; exact hl
                refine lv_iinc (v := nI (j + 1)) (lv' := [(6, .int (nI (j + 1))), (5, .int (nI (mnM nd z k (j + 1)))), (0, .ref (ad 0)), (1, .int (nI z)), (2, .long (lN c0)), (4, .int (nI k))]) hx hb d_O_costOfJobs_59 hl (k := 5) rfl (nI_1 j) (by decide) rfl (fun ls hl => ?_)
                refine lv_goto (tgt := 18) hx hb d_O_costOfJobs_62 (by decide) ?_
                exact ih18 (j + 1) (by omega) (hj) ls (lv_sub hl [2, 3, 4, 5, 1, 0] rfl)
        exact L18 _ 0 (Nat.lt_succ_self _) (Nat.zero_le _) ls (lv_sub hl [2, 3, 4, 5, 1, 0] rfl)
  exact L5 _ 0 0 (Nat.lt_succ_self _) (by decide) (rfl) ls (lv_sub hl [2, 3, 1, 0] rfl)

abbrev b_O_plan : ByteArray := prog_9_method_32_code
def y_O_plan : MethodName := ⟨"PartShelvesModel", "plan", "()I"⟩
theorem d_O_plan_0 : decode b_O_plan 0 = .ok (.iconst 0, 1) := by decide +kernel
theorem d_O_plan_1 : decode b_O_plan 1 = .ok (.istore_n 1, 1) := by decide +kernel
theorem d_O_plan_2 : decode b_O_plan 2 = .ok (.lconst 0, 1) := by decide +kernel
theorem d_O_plan_3 : decode b_O_plan 3 = .ok (.lstore_n 2, 1) := by decide +kernel
theorem d_O_plan_4 : decode b_O_plan 4 = .ok (.iconst 1, 1) := by decide +kernel
theorem d_O_plan_5 : decode b_O_plan 5 = .ok (.istore 4, 2) := by decide +kernel
theorem d_O_plan_7 : decode b_O_plan 7 = .ok (.iload 4, 2) := by decide +kernel
theorem d_O_plan_9 : decode b_O_plan 9 = .ok (.iconst 1, 1) := by decide +kernel
theorem d_O_plan_10 : decode b_O_plan 10 = .ok (.aload_n 0, 1) := by decide +kernel
theorem d_O_plan_11 : decode b_O_plan 11 = .ok (.getfield 159, 3) := by decide +kernel
theorem d_O_plan_14 : decode b_O_plan 14 = .ok (.ishl, 1) := by decide +kernel
theorem d_O_plan_15 : decode b_O_plan 15 = .ok (.if_icmp .ge 77, 3) := by decide +kernel
theorem d_O_plan_18 : decode b_O_plan 18 = .ok (.aload_n 0, 1) := by decide +kernel
theorem d_O_plan_19 : decode b_O_plan 19 = .ok (.iload 4, 2) := by decide +kernel
theorem d_O_plan_21 : decode b_O_plan 21 = .ok (.invokevirtual 168, 3) := by decide +kernel
theorem d_O_plan_24 : decode b_O_plan 24 = .ok (.lstore 5, 2) := by decide +kernel
theorem d_O_plan_26 : decode b_O_plan 26 = .ok (.aload_n 0, 1) := by decide +kernel
theorem d_O_plan_27 : decode b_O_plan 27 = .ok (.iload 4, 2) := by decide +kernel
theorem d_O_plan_29 : decode b_O_plan 29 = .ok (.invokevirtual 171, 3) := by decide +kernel
theorem d_O_plan_32 : decode b_O_plan 32 = .ok (.aload_n 0, 1) := by decide +kernel
theorem d_O_plan_33 : decode b_O_plan 33 = .ok (.iload_n 1, 1) := by decide +kernel
theorem d_O_plan_34 : decode b_O_plan 34 = .ok (.invokevirtual 171, 3) := by decide +kernel
theorem d_O_plan_37 : decode b_O_plan 37 = .ok (.if_icmp .gt 24, 3) := by decide +kernel
theorem d_O_plan_40 : decode b_O_plan 40 = .ok (.aload_n 0, 1) := by decide +kernel
theorem d_O_plan_41 : decode b_O_plan 41 = .ok (.iload 4, 2) := by decide +kernel
theorem d_O_plan_43 : decode b_O_plan 43 = .ok (.invokevirtual 171, 3) := by decide +kernel
theorem d_O_plan_46 : decode b_O_plan 46 = .ok (.aload_n 0, 1) := by decide +kernel
theorem d_O_plan_47 : decode b_O_plan 47 = .ok (.iload_n 1, 1) := by decide +kernel
theorem d_O_plan_48 : decode b_O_plan 48 = .ok (.invokevirtual 171, 3) := by decide +kernel
theorem d_O_plan_51 : decode b_O_plan 51 = .ok (.if_icmp .ne 14, 3) := by decide +kernel
theorem d_O_plan_54 : decode b_O_plan 54 = .ok (.lload 5, 2) := by decide +kernel
theorem d_O_plan_56 : decode b_O_plan 56 = .ok (.lload_n 2, 1) := by decide +kernel
theorem d_O_plan_57 : decode b_O_plan 57 = .ok (.lcmp, 1) := by decide +kernel
theorem d_O_plan_58 : decode b_O_plan 58 = .ok (.ifCond .ge 7, 3) := by decide +kernel
theorem d_O_plan_61 : decode b_O_plan 61 = .ok (.iconst 1, 1) := by decide +kernel
theorem d_O_plan_62 : decode b_O_plan 62 = .ok (.goto 4, 3) := by decide +kernel
theorem d_O_plan_65 : decode b_O_plan 65 = .ok (.iconst 0, 1) := by decide +kernel
theorem d_O_plan_66 : decode b_O_plan 66 = .ok (.istore 7, 2) := by decide +kernel
theorem d_O_plan_68 : decode b_O_plan 68 = .ok (.lload 5, 2) := by decide +kernel
theorem d_O_plan_70 : decode b_O_plan 70 = .ok (.lconst 0, 1) := by decide +kernel
theorem d_O_plan_71 : decode b_O_plan 71 = .ok (.lcmp, 1) := by decide +kernel
theorem d_O_plan_72 : decode b_O_plan 72 = .ok (.ifCond .lt 14, 3) := by decide +kernel
theorem d_O_plan_75 : decode b_O_plan 75 = .ok (.iload 7, 2) := by decide +kernel
theorem d_O_plan_77 : decode b_O_plan 77 = .ok (.ifCond .eq 9, 3) := by decide +kernel
theorem d_O_plan_80 : decode b_O_plan 80 = .ok (.iload 4, 2) := by decide +kernel
theorem d_O_plan_82 : decode b_O_plan 82 = .ok (.istore_n 1, 1) := by decide +kernel
theorem d_O_plan_83 : decode b_O_plan 83 = .ok (.lload 5, 2) := by decide +kernel
theorem d_O_plan_85 : decode b_O_plan 85 = .ok (.lstore_n 2, 1) := by decide +kernel
theorem d_O_plan_86 : decode b_O_plan 86 = .ok (.iinc 4 1, 3) := by decide +kernel
theorem d_O_plan_89 : decode b_O_plan 89 = .ok (.goto (-82), 3) := by decide +kernel
theorem d_O_plan_92 : decode b_O_plan 92 = .ok (.aload_n 0, 1) := by decide +kernel
theorem d_O_plan_93 : decode b_O_plan 93 = .ok (.iconst 1, 1) := by decide +kernel
theorem d_O_plan_94 : decode b_O_plan 94 = .ok (.putfield 174, 3) := by decide +kernel
theorem d_O_plan_97 : decode b_O_plan 97 = .ok (.aload_n 0, 1) := by decide +kernel
theorem d_O_plan_98 : decode b_O_plan 98 = .ok (.iload_n 1, 1) := by decide +kernel
theorem d_O_plan_99 : decode b_O_plan 99 = .ok (.putfield 177, 3) := by decide +kernel
theorem d_O_plan_102 : decode b_O_plan 102 = .ok (.aload_n 0, 1) := by decide +kernel
theorem d_O_plan_103 : decode b_O_plan 103 = .ok (.lload_n 2, 1) := by decide +kernel
theorem d_O_plan_104 : decode b_O_plan 104 = .ok (.putfield 180, 3) := by decide +kernel
theorem d_O_plan_107 : decode b_O_plan 107 = .ok (.aload_n 0, 1) := by decide +kernel
theorem d_O_plan_108 : decode b_O_plan 108 = .ok (.iload_n 1, 1) := by decide +kernel
theorem d_O_plan_109 : decode b_O_plan 109 = .ok (.invokevirtual 171, 3) := by decide +kernel
theorem d_O_plan_112 : decode b_O_plan 112 = .ok (.ireturn, 1) := by decide +kernel
def w_O_plan : List Cond := .code y_O_plan b_O_plan 8 (some .int) :: ([.fieldLink "PartShelvesModel" 159 "PartShelvesModel" "jobs" "I", .methodLink "PartShelvesModel" 168 ⟨"PartShelvesModel", "costOfJobs", "(I)J"⟩, .instanceMethod ⟨"PartShelvesModel", "costOfJobs", "(I)J"⟩, .selects "PartShelvesModel" ⟨"PartShelvesModel", "costOfJobs", "(I)J"⟩ ⟨"PartShelvesModel", "costOfJobs", "(I)J"⟩, .initialized "PartShelvesModel", .code ⟨"PartShelvesModel", "costOfJobs", "(I)J"⟩ prog_9_method_30_code 8 (some .long), .fieldLink "PartShelvesModel" 51 "PartShelvesModel" "needed" "[I", .methodLink "PartShelvesModel" 164 ⟨"PartShelvesModel", "costOf", "(II)J"⟩, .instanceMethod ⟨"PartShelvesModel", "costOf", "(II)J"⟩, .selects "PartShelvesModel" ⟨"PartShelvesModel", "costOf", "(II)J"⟩ ⟨"PartShelvesModel", "costOf", "(II)J"⟩, .code ⟨"PartShelvesModel", "costOf", "(II)J"⟩ prog_9_method_29_code 10 (some .long), .fieldLink "PartShelvesModel" 81 "PartShelvesModel" "parts" "I", .fieldLink "PartShelvesModel" 21 "PartShelvesModel" "kinds" "[I", .methodLink "PartShelvesModel" 117 ⟨"PartShelvesModel", "stateOf", "(I)I"⟩, .instanceMethod ⟨"PartShelvesModel", "stateOf", "(I)I"⟩, .selects "PartShelvesModel" ⟨"PartShelvesModel", "stateOf", "(I)I"⟩ ⟨"PartShelvesModel", "stateOf", "(I)I"⟩, .code ⟨"PartShelvesModel", "stateOf", "(I)I"⟩ prog_9_method_14_code 2 (some .int), .fieldLink "PartShelvesModel" 30 "PartShelvesModel" "states" "[I", .fieldLink "PartShelvesModel" 36 "PartShelvesModel" "days" "[I", .fieldLink "PartShelvesModel" 88 "PartShelvesModel" "today" "I", .methodLink "PartShelvesModel" 111 ⟨"PartShelvesModel", "priceOf", "(I)J"⟩, .instanceMethod ⟨"PartShelvesModel", "priceOf", "(I)J"⟩, .selects "PartShelvesModel" ⟨"PartShelvesModel", "priceOf", "(I)J"⟩ ⟨"PartShelvesModel", "priceOf", "(I)J"⟩, .code ⟨"PartShelvesModel", "priceOf", "(I)J"⟩ prog_9_method_12_code 5 (some .long), .fieldLink "PartShelvesModel" 97 "PartShelvesModel" "rows" "I", .fieldLink "PartShelvesModel" 7 "PartShelvesModel" "rowAges" "[I", .fieldLink "PartShelvesModel" 24 "PartShelvesModel" "ages" "[I", .fieldLink "PartShelvesModel" 13 "PartShelvesModel" "rowCents" "[J", .constantLong "PartShelvesModel" 115 (-1), .methodLink "PartShelvesModel" 171 ⟨"PartShelvesModel", "sizeOf", "(I)I"⟩, .instanceMethod ⟨"PartShelvesModel", "sizeOf", "(I)I"⟩, .selects "PartShelvesModel" ⟨"PartShelvesModel", "sizeOf", "(I)I"⟩ ⟨"PartShelvesModel", "sizeOf", "(I)I"⟩, .code ⟨"PartShelvesModel", "sizeOf", "(I)I"⟩ prog_9_method_31_code 4 (some .int), .fieldLink "PartShelvesModel" 174 "PartShelvesModel" "isPlanned" "Z", .fieldLink "PartShelvesModel" 177 "PartShelvesModel" "foundJobs" "I", .fieldLink "PartShelvesModel" 180 "PartShelvesModel" "foundCost" "J"] ++ u_ws R_O F_O 36)
set_option maxRecDepth 20000 in
theorem g_O_plan_costOfJobs : GoodIn w_O_plan (wsV R_O 168 R_O y_O_costOfJobs w_O_costOfJobs) := goodIn_p _ [6, 11, 17, 24] rfl (by decide +kernel)
set_option maxRecDepth 20000 in
theorem g_O_plan_sizeOf : GoodIn w_O_plan (wsV R_O 171 R_O y_O_sizeOf w_O_sizeOf) := goodIn_p _ [33] rfl (by decide +kernel)
set_option maxHeartbeats 4000000 in
set_option maxRecDepth 100000 in
theorem c_O_plan (l : Launch) (D : va_G) (kC : Nat → ClassId) (ad : Nat → Nat) (td : Nat) (rn : Nat) (pn : Nat) (an : Nat) (jn : Nat) (tn : Nat) (bm : Int32) (fw : Int64) (gp : Nat) (ga : Nat) (bp : Int32) (fc : Int64) (fj : Nat) (rA : Nat → Nat) (rC : Nat → Nat) (ft : Nat → Int32) (kd : Nat → Nat) (aG : Nat → Nat) (sR : Nat → Nat) (sT : Nat → Nat) (wh : Nat → Nat) (dY : Nat → Nat) (pd : Nat → Nat) (cN : Nat → Nat) (mN : Nat → Nat) (sv : Nat → Int32) (nd : Nat → Nat) (wr : Nat → Nat) (tl : Nat → Nat) (lt : Nat → Int32) (lT : Nat → Nat) (lD : Nat → Nat) (gv : Nat → Int32) (gn : Nat → Int64) (od : Nat → Nat) (br : Nat → Nat) (sz : Nat) (hjn : jn ≤ 6) (hnd : ∀ j, nd j ≤ 3) (hpn : pn ≤ 8) (hsT : ∀ j, sT j ≤ 3) (hdY : ∀ j, dY j ≤ 100000) (htd : td ≤ 100000) (hrn : rn ≤ 6) (hrA : ∀ j, rA j ≤ 1000) (haG : ∀ j, aG j ≤ 1000) (hkd : ∀ j, kd j < 6) (hrC : ∀ j, rC j ≤ 100000) : Met l y_O_plan w_O_plan ({ frames := 3, cells := 0, slots := 0, locals := 81 } : Room) (gPre cls D (tyL kC) [.ref (ad 0)] (fl [(wO kC ad td rn pn an jn tn bm fw gp ga bp fc fj rA rC ft kd aG sR sT wh dY pd cN mN sv nd wr tl lt lT lD gv gn od br)]) sz) (gQi cls D (tyL kC) (fl [(wO kC ad td rn pn an jn tn bm fw gp ga bp fc fj rA rC ft kd aG sR sT wh dY pd cN mN sv nd wr tl lt lT lD gv gn od br)]) sz (nI (szM (plM (fun z => cjM (fun k => cost1 (fun z => selM kd sT dY (fun q => prM rA rC (aG q) rn) td k z pn) (fun q => prM rA rC (aG q) rn) (mnM nd z k jn)) 6) (2 ^ jn - 1)).1 6)) (fl [(wO kC ad td rn pn an jn tn bm fw gp ga (nI 1) (lN (plM (fun z => cjM (fun k => cost1 (fun z => selM kd sT dY (fun q => prM rA rC (aG q) rn) td k z pn) (fun q => prM rA rC (aG q) rn) (mnM nd z k jn)) 6) (2 ^ jn - 1)).2) ((plM (fun z => cjM (fun k => cost1 (fun z => selM kd sT dY (fun q => prM rA rC (aG q) rn) td k z pn) (fun q => prM rA rC (aG q) rn) (mnM nd z k jn)) 6) (2 ^ jn - 1)).1) rA rC ft kd aG sR sT wh dY pd cN mN sv nd wr tl lt lT lD gv gn od br)])) 0 0 (va_A (fl [(wO kC ad td rn pn an jn tn bm fw gp ga bp fc fj rA rC ft kd aG sR sT wh dY pd cN mN sv nd wr tl lt lT lD gv gn od br)]) sz) := by
  refine Met.ofW (cc := b_O_plan) (maxL := 8) (ret := (some .int)) (by decide) rfl ?_
  intro p e s m args below meth c s₁ B hml hv
  obtain ⟨rfl, hsz, hP, hK, hD0⟩ := hv
  have hx := B.exec
  have hb := B.bytes
  have hr := B.returns
  have hts := atoms_spec (ws := w_O_plan) B.pre
  have hown : s.vm.findClass R_O = some m.cls := findClass_of_methodNamed B.named
  have hlocks := B.notSynchronized
  subst hsz
  obtain ⟨A, hAe⟩ : ∃ A : Nat → Prop, A = va_A (fl [(wO kC ad td rn pn an jn tn bm fw gp ga bp fc fj rA rC ft kd aG sR sT wh dY pd cN mN sv nd wr tl lt lT lD gv gn od br)]) s.heap.size := ⟨_, rfl⟩
  have hD : va_D A (fl [(wO kC ad td rn pn an jn tn bm fw gp ga bp fc fj rA rC ft kd aG sR sT wh dY pd cN mN sv nd wr tl lt lT lD gv gn od br)]) := by rw [hAe]; exact hD0.self
  have hA : ∀ q : Nat, s.heap.size ≤ q → A q := fun q h => by rw [hAe]; exact Or.inr h
  have hS : va_S A s.heap s.heap [] := va_S.rf
  have hl := lv_entry ([.ref (ad 0)]) (n := 8) (Nat.le_of_ble_eq_true rfl)
  rw [lg_entry_eq]
  generalize (lg_sl ([.ref (ad 0)]) ++ List.replicate (8 - (lg_sl ([.ref (ad 0)])).length) Slot.unset).toArray = ls at hl ⊢
  have hl : lv_has ls 8 [(0, .ref (ad 0))] := hl
  obtain ⟨S, eS⟩ : ∃ S, S = 2 ^ jn := ⟨_, rfl⟩
  have hS64 : S ≤ 64 := by rw [eS]; exact Nat.le_trans (Nat.pow_le_pow_right (by decide) hjn) (by decide)
  have hS0 : 0 < S := by rw [eS]; exact Nat.two_pow_pos jn
  have hcb : ∀ z c, (fun z => cjM (fun k => cost1 (fun z => selM kd sT dY (fun q => prM rA rC (aG q) rn) td k z pn) (fun q => prM rA rC (aG q) rn) (mnM nd z k jn)) 6) z = some c → c ≤ 10800000 := fun z c h => by
    refine Nat.le_trans (cjM_b (B := 1800000) (fun k c hk => ?_) _ _ h) (by decide)
    have hmn := mnM_le (z := z) (k := k) hnd jn
    simp only [cost1] at hk
    split at hk
    · cases hk
    · rename_i x hx1; cases hk; exact Nat.le_trans (csT_b (B := 100000) (fun b => prM_le hrC _) (fun z b h => by have := selM_lt _ _ h; omega) _ _ hx1).1 (by omega)
  refine lv_iconst (v := nI 0) hx hb d_O_plan_0 (by decide) ?_
  refine lv_istore_n (lv' := [(1, .int (nI 0)), (0, .ref (ad 0))]) hx hb d_O_plan_1 rfl hl (by decide) rfl (fun ls hl => ?_)
  refine lv_lconst (v := lN 0) hx hb d_O_plan_2 (by decide) ?_
  refine lv_lstore_n (lv' := [(2, .long (lN 0)), (1, .int (nI 0)), (0, .ref (ad 0))]) hx hb d_O_plan_3 rfl hl (by decide) rfl (fun ls hl => ?_)
  refine lv_iconst (v := nI 1) hx hb d_O_plan_4 (by decide) ?_
  refine lv_istore (lv' := [(4, .int (nI 1)), (2, .long (lN 0)), (1, .int (nI 0)), (0, .ref (ad 0))]) hx hb d_O_plan_5 hl (by decide) rfl (fun ls hl => ?_)
  have L7 : ∀ (n7 : Nat) (t : Nat), S - t < n7 → t + 1 ≤ S → ∀ (H : Heap) (locs : List Loc), va_P D cls (fl [(wO kC ad td rn pn an jn tn bm fw gp ga bp fc fj rA rC ft kd aG sR sT wh dY pd cN mN sv nd wr tl lt lT lD gv gn od br)]) H → va_D A (fl [(wO kC ad td rn pn an jn tn bm fw gp ga bp fc fj rA rC ft kd aG sR sT wh dY pd cN mN sv nd wr tl lt lT lD gv gn od br)]) → va_S A s.heap H locs → ∀ (ls : Array Slot), lv_has ls 8 [(0, .ref (ad 0)), (1, .int (nI ((plM (fun z => cjM (fun k => cost1 (fun z => selM kd sT dY (fun q => prM rA rC (aG q) rn) td k z pn) (fun q => prM rA rC (aG q) rn) (mnM nd z k jn)) 6) t).1))), (2, .long (lN ((plM (fun z => cjM (fun k => cost1 (fun z => selM kd sT dY (fun q => prM rA rC (aG q) rn) td k z pn) (fun q => prM rA rC (aG q) rn) (mnM nd z k jn)) 6) t).2))), (4, .int (nI (t + 1)))] → W p l e (headSpec w_O_plan ({ frames := 3, cells := 0, slots := 0, locals := 81 } : Room)).room s m ([.ref (ad 0)] : List Value).toArray below meth c H locs 0 0 (MQ below (gQi cls D (tyL kC) (fl [(wO kC ad td rn pn an jn tn bm fw gp ga bp fc fj rA rC ft kd aG sR sT wh dY pd cN mN sv nd wr tl lt lT lD gv gn od br)]) s.heap.size (nI (szM (plM (fun z => cjM (fun k => cost1 (fun z => selM kd sT dY (fun q => prM rA rC (aG q) rn) td k z pn) (fun q => prM rA rC (aG q) rn) (mnM nd z k jn)) 6) (2 ^ jn - 1)).1 6)) (fl [(wO kC ad td rn pn an jn tn bm fw gp ga (nI 1) (lN (plM (fun z => cjM (fun k => cost1 (fun z => selM kd sT dY (fun q => prM rA rC (aG q) rn) td k z pn) (fun q => prM rA rC (aG q) rn) (mnM nd z k jn)) 6) (2 ^ jn - 1)).2) ((plM (fun z => cjM (fun k => cost1 (fun z => selM kd sT dY (fun q => prM rA rC (aG q) rn) td k z pn) (fun q => prM rA rC (aG q) rn) (mnM nd z k jn)) 6) (2 ^ jn - 1)).1) rA rC ft kd aG sR sT wh dY pd cN mN sv nd wr tl lt lT lD gv gn od br)])) ([.ref (ad 0)] : List Value).toArray s 0 0 (va_A (fl [(wO kC ad td rn pn an jn tn bm fw gp ga bp fc fj rA rC ft kd aG sR sT wh dY pd cN mN sv nd wr tl lt lT lD gv gn od br)]) s.heap.size)) (F0 m 7 ls []) := by
    intro n7
    induction n7 with
    | zero =>
      intro t hm
      exact absurd hm (Nat.not_lt_zero _)
    | succ n7 ih7 =>
      intro t hm htS H locs hP hD hS ls hl
      refine lv_iload hx hb d_O_plan_7 (lv_at hl 3 rfl) ?_
      refine lv_iconst (v := nI 1) hx hb d_O_plan_9 (by decide) ?_
      refine lv_aload_n hx hb d_O_plan_10 rfl (lv_at hl 0 rfl) ?_
      refine fv_get (ci := 7) (v := .int (nI jn)) (C := R_O) (T := F_O) (N := 36) hx hb hts (by decide +kernel) hown hK hP 0 0 rfl rfl rfl 17 (by decide) (hts (.fieldLink R_O 159 "PartShelvesModel" "jobs" "I") (by decide +kernel)) (fun _ h9 => h9) rfl d_O_plan_11 ?_
      refine lv_ishl hx hb d_O_plan_14 ?_
      refine nv_topi (y := nI S) (by rw [eS]; exact shl1 jn (by omega)) ?_
      refine nv_icmp_ge (tgt := 92) hx hb d_O_plan_15 (by decide) (by omega) (by omega) (fun ht => ?_) (fun ht => ?_)
      · obtain rfl : t = 2 ^ jn - 1 := by omega
        refine lv_aload_n hx hb d_O_plan_92 rfl (lv_at hl 0 rfl) ?_
        refine lv_iconst (v := nI 1) hx hb d_O_plan_93 (by decide) ?_
        refine fv_put (ci := 7) (v := .int (nI 1)) (ty := (.boolean)) (C := R_O) (T := F_O) (N := 36) hx hb hts (by decide +kernel) t_O t_O_ok n_O hown hK hP hD hS 0 0 rfl rfl rfl 31 (by decide) (hts (.fieldLink R_O 174 "PartShelvesModel" "isPlanned" "Z") (by decide +kernel)) (fun _ h9 => h9) rfl (by decide +kernel) (rfl) (rfl) (Nat.le_of_ble_eq_true rfl) d_O_plan_94 (fun H locs hP hD hS => ?_)
        have hP : va_P D cls (fl [(wO kC ad td rn pn an jn tn bm fw gp ga (nI 1) fc fj rA rC ft kd aG sR sT wh dY pd cN mN sv nd wr tl lt lT lD gv gn od br)]) H := hP
        have hD : va_D A (fl [(wO kC ad td rn pn an jn tn bm fw gp ga (nI 1) fc fj rA rC ft kd aG sR sT wh dY pd cN mN sv nd wr tl lt lT lD gv gn od br)]) := hD
        refine lv_aload_n hx hb d_O_plan_97 rfl (lv_at hl 0 rfl) ?_
        refine lv_iload_n hx hb d_O_plan_98 rfl (lv_at hl 1 rfl) ?_
        refine fv_put (ci := 7) (v := .int (nI ((plM (fun z => cjM (fun k => cost1 (fun z => selM kd sT dY (fun q => prM rA rC (aG q) rn) td k z pn) (fun q => prM rA rC (aG q) rn) (mnM nd z k jn)) 6) (2 ^ jn - 1)).1))) (ty := (.int)) (C := R_O) (T := F_O) (N := 36) hx hb hts (by decide +kernel) t_O t_O_ok n_O hown hK hP hD hS 0 0 rfl rfl rfl 33 (by decide) (hts (.fieldLink R_O 177 "PartShelvesModel" "foundJobs" "I") (by decide +kernel)) (fun _ h9 => h9) rfl (by decide +kernel) (rfl) (rfl) (Nat.le_of_ble_eq_true rfl) d_O_plan_99 (fun H locs hP hD hS => ?_)
        have hP : va_P D cls (fl [(wO kC ad td rn pn an jn tn bm fw gp ga (nI 1) fc ((plM (fun z => cjM (fun k => cost1 (fun z => selM kd sT dY (fun q => prM rA rC (aG q) rn) td k z pn) (fun q => prM rA rC (aG q) rn) (mnM nd z k jn)) 6) (2 ^ jn - 1)).1) rA rC ft kd aG sR sT wh dY pd cN mN sv nd wr tl lt lT lD gv gn od br)]) H := hP
        have hD : va_D A (fl [(wO kC ad td rn pn an jn tn bm fw gp ga (nI 1) fc ((plM (fun z => cjM (fun k => cost1 (fun z => selM kd sT dY (fun q => prM rA rC (aG q) rn) td k z pn) (fun q => prM rA rC (aG q) rn) (mnM nd z k jn)) 6) (2 ^ jn - 1)).1) rA rC ft kd aG sR sT wh dY pd cN mN sv nd wr tl lt lT lD gv gn od br)]) := hD
        refine lv_aload_n hx hb d_O_plan_102 rfl (lv_at hl 0 rfl) ?_
        refine lv_lload_n hx hb d_O_plan_103 rfl (lv_at hl 2 rfl) ?_
        refine fv_put (ci := 7) (v := .long (lN ((plM (fun z => cjM (fun k => cost1 (fun z => selM kd sT dY (fun q => prM rA rC (aG q) rn) td k z pn) (fun q => prM rA rC (aG q) rn) (mnM nd z k jn)) 6) (2 ^ jn - 1)).2))) (ty := (.long)) (C := R_O) (T := F_O) (N := 36) hx hb hts (by decide +kernel) t_O t_O_ok n_O hown hK hP hD hS 0 0 rfl rfl rfl 32 (by decide) (hts (.fieldLink R_O 180 "PartShelvesModel" "foundCost" "J") (by decide +kernel)) (fun _ h9 => h9) rfl (by decide +kernel) (rfl) (rfl) (Nat.le_of_ble_eq_true rfl) d_O_plan_104 (fun H locs hP hD hS => ?_)
        have hP : va_P D cls (fl [(wO kC ad td rn pn an jn tn bm fw gp ga (nI 1) (lN ((plM (fun z => cjM (fun k => cost1 (fun z => selM kd sT dY (fun q => prM rA rC (aG q) rn) td k z pn) (fun q => prM rA rC (aG q) rn) (mnM nd z k jn)) 6) (2 ^ jn - 1)).2)) ((plM (fun z => cjM (fun k => cost1 (fun z => selM kd sT dY (fun q => prM rA rC (aG q) rn) td k z pn) (fun q => prM rA rC (aG q) rn) (mnM nd z k jn)) 6) (2 ^ jn - 1)).1) rA rC ft kd aG sR sT wh dY pd cN mN sv nd wr tl lt lT lD gv gn od br)]) H := hP
        have hD : va_D A (fl [(wO kC ad td rn pn an jn tn bm fw gp ga (nI 1) (lN ((plM (fun z => cjM (fun k => cost1 (fun z => selM kd sT dY (fun q => prM rA rC (aG q) rn) td k z pn) (fun q => prM rA rC (aG q) rn) (mnM nd z k jn)) 6) (2 ^ jn - 1)).2)) ((plM (fun z => cjM (fun k => cost1 (fun z => selM kd sT dY (fun q => prM rA rC (aG q) rn) td k z pn) (fun q => prM rA rC (aG q) rn) (mnM nd z k jn)) 6) (2 ^ jn - 1)).1) rA rC ft kd aG sR sT wh dY pd cN mN sv nd wr tl lt lT lD gv gn od br)]) := hD
        refine lv_aload_n hx hb d_O_plan_107 rfl (lv_at hl 0 rfl) ?_
        refine lv_iload_n hx hb d_O_plan_108 rfl (lv_at hl 1 rfl) ?_
        refine r_calli (W.runV (As := [.int (nI ((plM (fun z => cjM (fun k => cost1 (fun z => selM kd sT dY (fun q => prM rA rC (aG q) rn) td k z pn) (fun q => prM rA rC (aG q) rn) (mnM nd z k jn)) 6) (2 ^ jn - 1)).1))]) (rest := []) ⟨hx, hb, hml, hown, hts⟩ (c_O_sizeOf l D kC ad td rn pn an jn tn bm fw gp ga (nI 1) (lN ((plM (fun z => cjM (fun k => cost1 (fun z => selM kd sT dY (fun q => prM rA rC (aG q) rn) td k z pn) (fun q => prM rA rC (aG q) rn) (mnM nd z k jn)) 6) (2 ^ jn - 1)).2)) ((plM (fun z => cjM (fun k => cost1 (fun z => selM kd sT dY (fun q => prM rA rC (aG q) rn) td k z pn) (fun q => prM rA rC (aG q) rn) (mnM nd z k jn)) 6) (2 ^ jn - 1)).1) rA rC ft kd aG sR sT wh dY pd cN mN sv nd wr tl lt lT lD gv gn od br ((plM (fun z => cjM (fun k => cost1 (fun z => selM kd sT dY (fun q => prM rA rC (aG q) rn) td k z pn) (fun q => prM rA rC (aG q) rn) (mnM nd z k jn)) 6) (2 ^ jn - 1)).1) (by have := plM_le (fun z => cjM (fun k => cost1 (fun z => selM kd sT dY (fun q => prM rA rC (aG q) rn) td k z pn) (fun q => prM rA rC (aG q) rn) (mnM nd z k jn)) 6) (2 ^ jn - 1); omega)) (cwV 1 hts g_O_plan_sizeOf rfl rfl rfl (by decide +kernel) ⟨Nat.le_of_ble_eq_true rfl, Nat.le_of_ble_eq_true rfl⟩) (r_preV (f_recv (ci := 7) (q0 := 0) hK hP 0 rfl rfl rfl) hK hP) rfl rfl hl.1 rfl (lv_room (Nat.le_of_ble_eq_true rfl)) d_O_plan_109 ⟨Nat.le_of_ble_eq_true rfl, Nat.le_of_ble_eq_true rfl⟩) ?_
        exact W.iret (v := nI (szM ((plM (fun z => cjM (fun k => cost1 (fun z => selM kd sT dY (fun q => prM rA rC (aG q) rn) td k z pn) (fun q => prM rA rC (aG q) rn) (mnM nd z k jn)) 6) (2 ^ jn - 1)).1) 6)) hx hb hr (fun t ht hW => by subst hAe; exact ⟨⟨(nI (szM ((plM (fun z => cjM (fun k => cost1 (fun z => selM kd sT dY (fun q => prM rA rC (aG q) rn) td k z pn) (fun q => prM rA rC (aG q) rn) (mnM nd z k jn)) 6) (2 ^ jn - 1)).1) 6)), (), rfl, rfl, by rw [ht]; exact hP, va_K.moved hW.alike hK, hD⟩, hS.F ht⟩) (by subst hAe; exact hS.2.2) d_O_plan_112
      · have hpl := plM_le (fun z => cjM (fun k => cost1 (fun z => selM kd sT dY (fun q => prM rA rC (aG q) rn) td k z pn) (fun q => prM rA rC (aG q) rn) (mnM nd z k jn)) 6) t
        refine lv_aload_n hx hb d_O_plan_18 rfl (lv_at hl 0 rfl) ?_
        refine lv_iload hx hb d_O_plan_19 (lv_at hl 3 rfl) ?_
        refine r_calll (W.runV (As := [.int (nI (t + 1))]) (rest := []) ⟨hx, hb, hml, hown, hts⟩ (c_O_cj l D kC ad td rn pn an jn tn bm fw gp ga bp fc fj rA rC ft kd aG sR sT wh dY pd cN mN sv nd wr tl lt lT lD gv gn od br (t + 1) (by omega) (hjn) (hnd) (hpn) (hsT) (hdY) (htd) (hrn) (hrA) (haG) (hkd) (hrC)) (cwV 1 hts g_O_plan_costOfJobs rfl rfl rfl (by decide +kernel) ⟨Nat.le_of_ble_eq_true rfl, Nat.le_of_ble_eq_true rfl⟩) (r_preV (f_recv (ci := 7) (q0 := 0) hK hP 0 rfl rfl rfl) hK hP) rfl rfl hl.1 rfl (lv_room (Nat.le_of_ble_eq_true rfl)) d_O_plan_21 ⟨Nat.le_of_ble_eq_true rfl, Nat.le_of_ble_eq_true rfl⟩) ?_
        rcases ho : cjM (fun k => cost1 (fun z => selM kd sT dY (fun q => prM rA rC (aG q) rn) td k z pn) (fun q => prM rA rC (aG q) rn) (mnM nd (t + 1) k jn)) 6 with _ | o
        · refine nv_topl (y := (-1)) (rfl) ?_
          have hkeep : (plM (fun z => cjM (fun k => cost1 (fun z => selM kd sT dY (fun q => prM rA rC (aG q) rn) td k z pn) (fun q => prM rA rC (aG q) rn) (mnM nd z k jn)) 6) (t + 1)) = (plM (fun z => cjM (fun k => cost1 (fun z => selM kd sT dY (fun q => prM rA rC (aG q) rn) td k z pn) (fun q => prM rA rC (aG q) rn) (mnM nd z k jn)) 6) t) := by simp only [plM, ho]
          refine lv_lstore (lv' := [(5, .long (-1)), (0, .ref (ad 0)), (1, .int (nI ((plM (fun z => cjM (fun k => cost1 (fun z => selM kd sT dY (fun q => prM rA rC (aG q) rn) td k z pn) (fun q => prM rA rC (aG q) rn) (mnM nd z k jn)) 6) t).1))), (2, .long (lN ((plM (fun z => cjM (fun k => cost1 (fun z => selM kd sT dY (fun q => prM rA rC (aG q) rn) td k z pn) (fun q => prM rA rC (aG q) rn) (mnM nd z k jn)) 6) t).2))), (4, .int (nI (t + 1)))]) hx hb d_O_plan_24 hl (by decide) rfl (fun ls hl => ?_)
          refine lv_aload_n hx hb d_O_plan_26 rfl (lv_at hl 1 rfl) ?_
          refine lv_iload hx hb d_O_plan_27 (lv_at hl 4 rfl) ?_
          refine r_calli (W.runV (As := [.int (nI (t + 1))]) (rest := []) ⟨hx, hb, hml, hown, hts⟩ (c_O_sizeOf l D kC ad td rn pn an jn tn bm fw gp ga bp fc fj rA rC ft kd aG sR sT wh dY pd cN mN sv nd wr tl lt lT lD gv gn od br (t + 1) (by omega)) (cwV 1 hts g_O_plan_sizeOf rfl rfl rfl (by decide +kernel) ⟨Nat.le_of_ble_eq_true rfl, Nat.le_of_ble_eq_true rfl⟩) (r_preV (f_recv (ci := 7) (q0 := 0) hK hP 0 rfl rfl rfl) hK hP) rfl rfl hl.1 rfl (lv_room (Nat.le_of_ble_eq_true rfl)) d_O_plan_29 ⟨Nat.le_of_ble_eq_true rfl, Nat.le_of_ble_eq_true rfl⟩) ?_
          refine lv_aload_n hx hb d_O_plan_32 rfl (lv_at hl 1 rfl) ?_
          refine lv_iload_n hx hb d_O_plan_33 rfl (lv_at hl 2 rfl) ?_
          refine r_calli (W.runV (As := [.int (nI ((plM (fun z => cjM (fun k => cost1 (fun z => selM kd sT dY (fun q => prM rA rC (aG q) rn) td k z pn) (fun q => prM rA rC (aG q) rn) (mnM nd z k jn)) 6) t).1))]) (rest := [.int (nI (szM (t + 1) 6))]) ⟨hx, hb, hml, hown, hts⟩ (c_O_sizeOf l D kC ad td rn pn an jn tn bm fw gp ga bp fc fj rA rC ft kd aG sR sT wh dY pd cN mN sv nd wr tl lt lT lD gv gn od br ((plM (fun z => cjM (fun k => cost1 (fun z => selM kd sT dY (fun q => prM rA rC (aG q) rn) td k z pn) (fun q => prM rA rC (aG q) rn) (mnM nd z k jn)) 6) t).1) (by omega)) (cwV 1 hts g_O_plan_sizeOf rfl rfl rfl (by decide +kernel) ⟨Nat.le_of_ble_eq_true rfl, Nat.le_of_ble_eq_true rfl⟩) (r_preV (f_recv (ci := 7) (q0 := 0) hK hP 0 rfl rfl rfl) hK hP) rfl rfl hl.1 rfl (lv_room (Nat.le_of_ble_eq_true rfl)) d_O_plan_34 ⟨Nat.le_of_ble_eq_true rfl, Nat.le_of_ble_eq_true rfl⟩) ?_
          refine nv_icmp_gt (tgt := 61) hx hb d_O_plan_37 (by decide) (Nat.lt_of_le_of_lt (szM_le _ _) (by decide)) (Nat.lt_of_le_of_lt (szM_le _ _) (by decide)) (fun h1 => ?_) (fun h1 => ?_)
          · refine lv_iconst (v := nI 1) hx hb d_O_plan_61 (by decide) ?_
            refine lv_goto (tgt := 66) hx hb d_O_plan_62 (by decide) ?_
            refine lv_istore (lv' := [(7, .int (nI 1)), (5, .long (-1)), (0, .ref (ad 0)), (1, .int (nI ((plM (fun z => cjM (fun k => cost1 (fun z => selM kd sT dY (fun q => prM rA rC (aG q) rn) td k z pn) (fun q => prM rA rC (aG q) rn) (mnM nd z k jn)) 6) t).1))), (2, .long (lN ((plM (fun z => cjM (fun k => cost1 (fun z => selM kd sT dY (fun q => prM rA rC (aG q) rn) td k z pn) (fun q => prM rA rC (aG q) rn) (mnM nd z k jn)) 6) t).2))), (4, .int (nI (t + 1)))]) hx hb d_O_plan_66 hl (by decide) rfl (fun ls hl => ?_)
            refine lv_lload hx hb d_O_plan_68 (lv_at hl 1 rfl) ?_
            refine lv_lconst (v := lN 0) hx hb d_O_plan_70 (by decide) ?_
            refine lc_lt (tgt := 86) hx hb d_O_plan_71 d_O_plan_72 (by decide) (fun h4 => ?_) (fun h4 => ?_)
            · have el1 : nI ((plM (fun z => cjM (fun k => cost1 (fun z => selM kd sT dY (fun q => prM rA rC (aG q) rn) td k z pn) (fun q => prM rA rC (aG q) rn) (mnM nd z k jn)) 6) t).1) = nI ((plM (fun z => cjM (fun k => cost1 (fun z => selM kd sT dY (fun q => prM rA rC (aG q) rn) td k z pn) (fun q => prM rA rC (aG q) rn) (mnM nd z k jn)) 6) (t + 1)).1) := congrArg nI (congrArg Prod.fst hkeep).symm
              have hl : lv_has ls 8 [(7, .int (nI 1)), (5, .long (-1)), (0, .ref (ad 0)), (1, .int (nI ((plM (fun z => cjM (fun k => cost1 (fun z => selM kd sT dY (fun q => prM rA rC (aG q) rn) td k z pn) (fun q => prM rA rC (aG q) rn) (mnM nd z k jn)) 6) (t + 1)).1))), (2, .long (lN ((plM (fun z => cjM (fun k => cost1 (fun z => selM kd sT dY (fun q => prM rA rC (aG q) rn) td k z pn) (fun q => prM rA rC (aG q) rn) (mnM nd z k jn)) 6) t).2))), (4, .int (nI (t + 1)))] := by rw [← el1]; exact hl
              have el2 : lN ((plM (fun z => cjM (fun k => cost1 (fun z => selM kd sT dY (fun q => prM rA rC (aG q) rn) td k z pn) (fun q => prM rA rC (aG q) rn) (mnM nd z k jn)) 6) t).2) = lN ((plM (fun z => cjM (fun k => cost1 (fun z => selM kd sT dY (fun q => prM rA rC (aG q) rn) td k z pn) (fun q => prM rA rC (aG q) rn) (mnM nd z k jn)) 6) (t + 1)).2) := congrArg lN (congrArg Prod.snd hkeep).symm
              have hl : lv_has ls 8 [(7, .int (nI 1)), (5, .long (-1)), (0, .ref (ad 0)), (1, .int (nI ((plM (fun z => cjM (fun k => cost1 (fun z => selM kd sT dY (fun q => prM rA rC (aG q) rn) td k z pn) (fun q => prM rA rC (aG q) rn) (mnM nd z k jn)) 6) (t + 1)).1))), (2, .long (lN ((plM (fun z => cjM (fun k => cost1 (fun z => selM kd sT dY (fun q => prM rA rC (aG q) rn) td k z pn) (fun q => prM rA rC (aG q) rn) (mnM nd z k jn)) 6) (t + 1)).2))), (4, .int (nI (t + 1)))] := by rw [← el2]; exact hl
              refine lv_iinc (v := nI (t + 1 + 1)) (lv' := [(4, .int (nI (t + 1 + 1))), (7, .int (nI 1)), (5, .long (-1)), (0, .ref (ad 0)), (1, .int (nI ((plM (fun z => cjM (fun k => cost1 (fun z => selM kd sT dY (fun q => prM rA rC (aG q) rn) td k z pn) (fun q => prM rA rC (aG q) rn) (mnM nd z k jn)) 6) (t + 1)).1))), (2, .long (lN ((plM (fun z => cjM (fun k => cost1 (fun z => selM kd sT dY (fun q => prM rA rC (aG q) rn) td k z pn) (fun q => prM rA rC (aG q) rn) (mnM nd z k jn)) 6) (t + 1)).2)))]) hx hb d_O_plan_86 hl (k := 5) rfl (nI_1 (t + 1)) (by decide) rfl (fun ls hl => ?_)
              refine lv_goto (tgt := 7) hx hb d_O_plan_89 (by decide) ?_
              exact ih7 (t + 1) (by omega) (by omega) _ _ hP hD hS ls (lv_sub hl [3, 4, 5, 0] rfl)
            · exact absurd (by decide) h4
          · refine lv_aload_n hx hb d_O_plan_40 rfl (lv_at hl 1 rfl) ?_
            refine lv_iload hx hb d_O_plan_41 (lv_at hl 4 rfl) ?_
            refine r_calli (W.runV (As := [.int (nI (t + 1))]) (rest := []) ⟨hx, hb, hml, hown, hts⟩ (c_O_sizeOf l D kC ad td rn pn an jn tn bm fw gp ga bp fc fj rA rC ft kd aG sR sT wh dY pd cN mN sv nd wr tl lt lT lD gv gn od br (t + 1) (by omega)) (cwV 1 hts g_O_plan_sizeOf rfl rfl rfl (by decide +kernel) ⟨Nat.le_of_ble_eq_true rfl, Nat.le_of_ble_eq_true rfl⟩) (r_preV (f_recv (ci := 7) (q0 := 0) hK hP 0 rfl rfl rfl) hK hP) rfl rfl hl.1 rfl (lv_room (Nat.le_of_ble_eq_true rfl)) d_O_plan_43 ⟨Nat.le_of_ble_eq_true rfl, Nat.le_of_ble_eq_true rfl⟩) ?_
            refine lv_aload_n hx hb d_O_plan_46 rfl (lv_at hl 1 rfl) ?_
            refine lv_iload_n hx hb d_O_plan_47 rfl (lv_at hl 2 rfl) ?_
            refine r_calli (W.runV (As := [.int (nI ((plM (fun z => cjM (fun k => cost1 (fun z => selM kd sT dY (fun q => prM rA rC (aG q) rn) td k z pn) (fun q => prM rA rC (aG q) rn) (mnM nd z k jn)) 6) t).1))]) (rest := [.int (nI (szM (t + 1) 6))]) ⟨hx, hb, hml, hown, hts⟩ (c_O_sizeOf l D kC ad td rn pn an jn tn bm fw gp ga bp fc fj rA rC ft kd aG sR sT wh dY pd cN mN sv nd wr tl lt lT lD gv gn od br ((plM (fun z => cjM (fun k => cost1 (fun z => selM kd sT dY (fun q => prM rA rC (aG q) rn) td k z pn) (fun q => prM rA rC (aG q) rn) (mnM nd z k jn)) 6) t).1) (by omega)) (cwV 1 hts g_O_plan_sizeOf rfl rfl rfl (by decide +kernel) ⟨Nat.le_of_ble_eq_true rfl, Nat.le_of_ble_eq_true rfl⟩) (r_preV (f_recv (ci := 7) (q0 := 0) hK hP 0 rfl rfl rfl) hK hP) rfl rfl hl.1 rfl (lv_room (Nat.le_of_ble_eq_true rfl)) d_O_plan_48 ⟨Nat.le_of_ble_eq_true rfl, Nat.le_of_ble_eq_true rfl⟩) ?_
            refine nv_icmp_ne (tgt := 65) hx hb d_O_plan_51 (by decide) (Nat.lt_of_le_of_lt (szM_le _ _) (by decide)) (Nat.lt_of_le_of_lt (szM_le _ _) (by decide)) (fun h2 => ?_) (fun h2 => ?_)
            · refine lv_iconst (v := nI 0) hx hb d_O_plan_65 (by decide) ?_
              refine lv_istore (lv' := [(7, .int (nI 0)), (5, .long (-1)), (0, .ref (ad 0)), (1, .int (nI ((plM (fun z => cjM (fun k => cost1 (fun z => selM kd sT dY (fun q => prM rA rC (aG q) rn) td k z pn) (fun q => prM rA rC (aG q) rn) (mnM nd z k jn)) 6) t).1))), (2, .long (lN ((plM (fun z => cjM (fun k => cost1 (fun z => selM kd sT dY (fun q => prM rA rC (aG q) rn) td k z pn) (fun q => prM rA rC (aG q) rn) (mnM nd z k jn)) 6) t).2))), (4, .int (nI (t + 1)))]) hx hb d_O_plan_66 hl (by decide) rfl (fun ls hl => ?_)
              refine lv_lload hx hb d_O_plan_68 (lv_at hl 1 rfl) ?_
              refine lv_lconst (v := lN 0) hx hb d_O_plan_70 (by decide) ?_
              refine lc_lt (tgt := 86) hx hb d_O_plan_71 d_O_plan_72 (by decide) (fun h4 => ?_) (fun h4 => ?_)
              · have el3 : nI ((plM (fun z => cjM (fun k => cost1 (fun z => selM kd sT dY (fun q => prM rA rC (aG q) rn) td k z pn) (fun q => prM rA rC (aG q) rn) (mnM nd z k jn)) 6) t).1) = nI ((plM (fun z => cjM (fun k => cost1 (fun z => selM kd sT dY (fun q => prM rA rC (aG q) rn) td k z pn) (fun q => prM rA rC (aG q) rn) (mnM nd z k jn)) 6) (t + 1)).1) := congrArg nI (congrArg Prod.fst hkeep).symm
                have hl : lv_has ls 8 [(7, .int (nI 0)), (5, .long (-1)), (0, .ref (ad 0)), (1, .int (nI ((plM (fun z => cjM (fun k => cost1 (fun z => selM kd sT dY (fun q => prM rA rC (aG q) rn) td k z pn) (fun q => prM rA rC (aG q) rn) (mnM nd z k jn)) 6) (t + 1)).1))), (2, .long (lN ((plM (fun z => cjM (fun k => cost1 (fun z => selM kd sT dY (fun q => prM rA rC (aG q) rn) td k z pn) (fun q => prM rA rC (aG q) rn) (mnM nd z k jn)) 6) t).2))), (4, .int (nI (t + 1)))] := by rw [← el3]; exact hl
                have el4 : lN ((plM (fun z => cjM (fun k => cost1 (fun z => selM kd sT dY (fun q => prM rA rC (aG q) rn) td k z pn) (fun q => prM rA rC (aG q) rn) (mnM nd z k jn)) 6) t).2) = lN ((plM (fun z => cjM (fun k => cost1 (fun z => selM kd sT dY (fun q => prM rA rC (aG q) rn) td k z pn) (fun q => prM rA rC (aG q) rn) (mnM nd z k jn)) 6) (t + 1)).2) := congrArg lN (congrArg Prod.snd hkeep).symm
                have hl : lv_has ls 8 [(7, .int (nI 0)), (5, .long (-1)), (0, .ref (ad 0)), (1, .int (nI ((plM (fun z => cjM (fun k => cost1 (fun z => selM kd sT dY (fun q => prM rA rC (aG q) rn) td k z pn) (fun q => prM rA rC (aG q) rn) (mnM nd z k jn)) 6) (t + 1)).1))), (2, .long (lN ((plM (fun z => cjM (fun k => cost1 (fun z => selM kd sT dY (fun q => prM rA rC (aG q) rn) td k z pn) (fun q => prM rA rC (aG q) rn) (mnM nd z k jn)) 6) (t + 1)).2))), (4, .int (nI (t + 1)))] := by rw [← el4]; exact hl
                refine lv_iinc (v := nI (t + 1 + 1)) (lv' := [(4, .int (nI (t + 1 + 1))), (7, .int (nI 0)), (5, .long (-1)), (0, .ref (ad 0)), (1, .int (nI ((plM (fun z => cjM (fun k => cost1 (fun z => selM kd sT dY (fun q => prM rA rC (aG q) rn) td k z pn) (fun q => prM rA rC (aG q) rn) (mnM nd z k jn)) 6) (t + 1)).1))), (2, .long (lN ((plM (fun z => cjM (fun k => cost1 (fun z => selM kd sT dY (fun q => prM rA rC (aG q) rn) td k z pn) (fun q => prM rA rC (aG q) rn) (mnM nd z k jn)) 6) (t + 1)).2)))]) hx hb d_O_plan_86 hl (k := 5) rfl (nI_1 (t + 1)) (by decide) rfl (fun ls hl => ?_)
                refine lv_goto (tgt := 7) hx hb d_O_plan_89 (by decide) ?_
                exact ih7 (t + 1) (by omega) (by omega) _ _ hP hD hS ls (lv_sub hl [3, 4, 5, 0] rfl)
              · exact absurd (by decide) h4
            · refine lv_lload hx hb d_O_plan_54 (lv_at hl 0 rfl) ?_
              refine lv_lload_n hx hb d_O_plan_56 rfl (lv_at hl 3 rfl) ?_
              refine lc_ge (tgt := 65) hx hb d_O_plan_57 d_O_plan_58 (by decide) (fun h3 => ?_) (fun h3 => ?_)
              · refine lv_iconst (v := nI 0) hx hb d_O_plan_65 (by decide) ?_
                refine lv_istore (lv' := [(7, .int (nI 0)), (5, .long (-1)), (0, .ref (ad 0)), (1, .int (nI ((plM (fun z => cjM (fun k => cost1 (fun z => selM kd sT dY (fun q => prM rA rC (aG q) rn) td k z pn) (fun q => prM rA rC (aG q) rn) (mnM nd z k jn)) 6) t).1))), (2, .long (lN ((plM (fun z => cjM (fun k => cost1 (fun z => selM kd sT dY (fun q => prM rA rC (aG q) rn) td k z pn) (fun q => prM rA rC (aG q) rn) (mnM nd z k jn)) 6) t).2))), (4, .int (nI (t + 1)))]) hx hb d_O_plan_66 hl (by decide) rfl (fun ls hl => ?_)
                refine lv_lload hx hb d_O_plan_68 (lv_at hl 1 rfl) ?_
                refine lv_lconst (v := lN 0) hx hb d_O_plan_70 (by decide) ?_
                refine lc_lt (tgt := 86) hx hb d_O_plan_71 d_O_plan_72 (by decide) (fun h4 => ?_) (fun h4 => ?_)
                · have el5 : nI ((plM (fun z => cjM (fun k => cost1 (fun z => selM kd sT dY (fun q => prM rA rC (aG q) rn) td k z pn) (fun q => prM rA rC (aG q) rn) (mnM nd z k jn)) 6) t).1) = nI ((plM (fun z => cjM (fun k => cost1 (fun z => selM kd sT dY (fun q => prM rA rC (aG q) rn) td k z pn) (fun q => prM rA rC (aG q) rn) (mnM nd z k jn)) 6) (t + 1)).1) := congrArg nI (congrArg Prod.fst hkeep).symm
                  have hl : lv_has ls 8 [(7, .int (nI 0)), (5, .long (-1)), (0, .ref (ad 0)), (1, .int (nI ((plM (fun z => cjM (fun k => cost1 (fun z => selM kd sT dY (fun q => prM rA rC (aG q) rn) td k z pn) (fun q => prM rA rC (aG q) rn) (mnM nd z k jn)) 6) (t + 1)).1))), (2, .long (lN ((plM (fun z => cjM (fun k => cost1 (fun z => selM kd sT dY (fun q => prM rA rC (aG q) rn) td k z pn) (fun q => prM rA rC (aG q) rn) (mnM nd z k jn)) 6) t).2))), (4, .int (nI (t + 1)))] := by rw [← el5]; exact hl
                  have el6 : lN ((plM (fun z => cjM (fun k => cost1 (fun z => selM kd sT dY (fun q => prM rA rC (aG q) rn) td k z pn) (fun q => prM rA rC (aG q) rn) (mnM nd z k jn)) 6) t).2) = lN ((plM (fun z => cjM (fun k => cost1 (fun z => selM kd sT dY (fun q => prM rA rC (aG q) rn) td k z pn) (fun q => prM rA rC (aG q) rn) (mnM nd z k jn)) 6) (t + 1)).2) := congrArg lN (congrArg Prod.snd hkeep).symm
                  have hl : lv_has ls 8 [(7, .int (nI 0)), (5, .long (-1)), (0, .ref (ad 0)), (1, .int (nI ((plM (fun z => cjM (fun k => cost1 (fun z => selM kd sT dY (fun q => prM rA rC (aG q) rn) td k z pn) (fun q => prM rA rC (aG q) rn) (mnM nd z k jn)) 6) (t + 1)).1))), (2, .long (lN ((plM (fun z => cjM (fun k => cost1 (fun z => selM kd sT dY (fun q => prM rA rC (aG q) rn) td k z pn) (fun q => prM rA rC (aG q) rn) (mnM nd z k jn)) 6) (t + 1)).2))), (4, .int (nI (t + 1)))] := by rw [← el6]; exact hl
                  refine lv_iinc (v := nI (t + 1 + 1)) (lv' := [(4, .int (nI (t + 1 + 1))), (7, .int (nI 0)), (5, .long (-1)), (0, .ref (ad 0)), (1, .int (nI ((plM (fun z => cjM (fun k => cost1 (fun z => selM kd sT dY (fun q => prM rA rC (aG q) rn) td k z pn) (fun q => prM rA rC (aG q) rn) (mnM nd z k jn)) 6) (t + 1)).1))), (2, .long (lN ((plM (fun z => cjM (fun k => cost1 (fun z => selM kd sT dY (fun q => prM rA rC (aG q) rn) td k z pn) (fun q => prM rA rC (aG q) rn) (mnM nd z k jn)) 6) (t + 1)).2)))]) hx hb d_O_plan_86 hl (k := 5) rfl (nI_1 (t + 1)) (by decide) rfl (fun ls hl => ?_)
                  refine lv_goto (tgt := 7) hx hb d_O_plan_89 (by decide) ?_
                  exact ih7 (t + 1) (by omega) (by omega) _ _ hP hD hS ls (lv_sub hl [3, 4, 5, 0] rfl)
                · exact absurd (by decide) h4
              · refine lv_iconst (v := nI 1) hx hb d_O_plan_61 (by decide) ?_
                refine lv_goto (tgt := 66) hx hb d_O_plan_62 (by decide) ?_
                refine lv_istore (lv' := [(7, .int (nI 1)), (5, .long (-1)), (0, .ref (ad 0)), (1, .int (nI ((plM (fun z => cjM (fun k => cost1 (fun z => selM kd sT dY (fun q => prM rA rC (aG q) rn) td k z pn) (fun q => prM rA rC (aG q) rn) (mnM nd z k jn)) 6) t).1))), (2, .long (lN ((plM (fun z => cjM (fun k => cost1 (fun z => selM kd sT dY (fun q => prM rA rC (aG q) rn) td k z pn) (fun q => prM rA rC (aG q) rn) (mnM nd z k jn)) 6) t).2))), (4, .int (nI (t + 1)))]) hx hb d_O_plan_66 hl (by decide) rfl (fun ls hl => ?_)
                refine lv_lload hx hb d_O_plan_68 (lv_at hl 1 rfl) ?_
                refine lv_lconst (v := lN 0) hx hb d_O_plan_70 (by decide) ?_
                refine lc_lt (tgt := 86) hx hb d_O_plan_71 d_O_plan_72 (by decide) (fun h4 => ?_) (fun h4 => ?_)
                · have el7 : nI ((plM (fun z => cjM (fun k => cost1 (fun z => selM kd sT dY (fun q => prM rA rC (aG q) rn) td k z pn) (fun q => prM rA rC (aG q) rn) (mnM nd z k jn)) 6) t).1) = nI ((plM (fun z => cjM (fun k => cost1 (fun z => selM kd sT dY (fun q => prM rA rC (aG q) rn) td k z pn) (fun q => prM rA rC (aG q) rn) (mnM nd z k jn)) 6) (t + 1)).1) := congrArg nI (congrArg Prod.fst hkeep).symm
                  have hl : lv_has ls 8 [(7, .int (nI 1)), (5, .long (-1)), (0, .ref (ad 0)), (1, .int (nI ((plM (fun z => cjM (fun k => cost1 (fun z => selM kd sT dY (fun q => prM rA rC (aG q) rn) td k z pn) (fun q => prM rA rC (aG q) rn) (mnM nd z k jn)) 6) (t + 1)).1))), (2, .long (lN ((plM (fun z => cjM (fun k => cost1 (fun z => selM kd sT dY (fun q => prM rA rC (aG q) rn) td k z pn) (fun q => prM rA rC (aG q) rn) (mnM nd z k jn)) 6) t).2))), (4, .int (nI (t + 1)))] := by rw [← el7]; exact hl
                  have el8 : lN ((plM (fun z => cjM (fun k => cost1 (fun z => selM kd sT dY (fun q => prM rA rC (aG q) rn) td k z pn) (fun q => prM rA rC (aG q) rn) (mnM nd z k jn)) 6) t).2) = lN ((plM (fun z => cjM (fun k => cost1 (fun z => selM kd sT dY (fun q => prM rA rC (aG q) rn) td k z pn) (fun q => prM rA rC (aG q) rn) (mnM nd z k jn)) 6) (t + 1)).2) := congrArg lN (congrArg Prod.snd hkeep).symm
                  have hl : lv_has ls 8 [(7, .int (nI 1)), (5, .long (-1)), (0, .ref (ad 0)), (1, .int (nI ((plM (fun z => cjM (fun k => cost1 (fun z => selM kd sT dY (fun q => prM rA rC (aG q) rn) td k z pn) (fun q => prM rA rC (aG q) rn) (mnM nd z k jn)) 6) (t + 1)).1))), (2, .long (lN ((plM (fun z => cjM (fun k => cost1 (fun z => selM kd sT dY (fun q => prM rA rC (aG q) rn) td k z pn) (fun q => prM rA rC (aG q) rn) (mnM nd z k jn)) 6) (t + 1)).2))), (4, .int (nI (t + 1)))] := by rw [← el8]; exact hl
                  refine lv_iinc (v := nI (t + 1 + 1)) (lv' := [(4, .int (nI (t + 1 + 1))), (7, .int (nI 1)), (5, .long (-1)), (0, .ref (ad 0)), (1, .int (nI ((plM (fun z => cjM (fun k => cost1 (fun z => selM kd sT dY (fun q => prM rA rC (aG q) rn) td k z pn) (fun q => prM rA rC (aG q) rn) (mnM nd z k jn)) 6) (t + 1)).1))), (2, .long (lN ((plM (fun z => cjM (fun k => cost1 (fun z => selM kd sT dY (fun q => prM rA rC (aG q) rn) td k z pn) (fun q => prM rA rC (aG q) rn) (mnM nd z k jn)) 6) (t + 1)).2)))]) hx hb d_O_plan_86 hl (k := 5) rfl (nI_1 (t + 1)) (by decide) rfl (fun ls hl => ?_)
                  refine lv_goto (tgt := 7) hx hb d_O_plan_89 (by decide) ?_
                  exact ih7 (t + 1) (by omega) (by omega) _ _ hP hD hS ls (lv_sub hl [3, 4, 5, 0] rfl)
                · exact absurd (by decide) h4
        · refine nv_topl (y := lN o) (rfl) ?_
          have hob := hcb _ _ ho
          have hlb := plM_b hcb t
          refine lv_lstore (lv' := [(5, .long (lN o)), (0, .ref (ad 0)), (1, .int (nI ((plM (fun z => cjM (fun k => cost1 (fun z => selM kd sT dY (fun q => prM rA rC (aG q) rn) td k z pn) (fun q => prM rA rC (aG q) rn) (mnM nd z k jn)) 6) t).1))), (2, .long (lN ((plM (fun z => cjM (fun k => cost1 (fun z => selM kd sT dY (fun q => prM rA rC (aG q) rn) td k z pn) (fun q => prM rA rC (aG q) rn) (mnM nd z k jn)) 6) t).2))), (4, .int (nI (t + 1)))]) hx hb d_O_plan_24 hl (by decide) rfl (fun ls hl => ?_)
          refine lv_aload_n hx hb d_O_plan_26 rfl (lv_at hl 1 rfl) ?_
          refine lv_iload hx hb d_O_plan_27 (lv_at hl 4 rfl) ?_
          refine r_calli (W.runV (As := [.int (nI (t + 1))]) (rest := []) ⟨hx, hb, hml, hown, hts⟩ (c_O_sizeOf l D kC ad td rn pn an jn tn bm fw gp ga bp fc fj rA rC ft kd aG sR sT wh dY pd cN mN sv nd wr tl lt lT lD gv gn od br (t + 1) (by omega)) (cwV 1 hts g_O_plan_sizeOf rfl rfl rfl (by decide +kernel) ⟨Nat.le_of_ble_eq_true rfl, Nat.le_of_ble_eq_true rfl⟩) (r_preV (f_recv (ci := 7) (q0 := 0) hK hP 0 rfl rfl rfl) hK hP) rfl rfl hl.1 rfl (lv_room (Nat.le_of_ble_eq_true rfl)) d_O_plan_29 ⟨Nat.le_of_ble_eq_true rfl, Nat.le_of_ble_eq_true rfl⟩) ?_
          refine lv_aload_n hx hb d_O_plan_32 rfl (lv_at hl 1 rfl) ?_
          refine lv_iload_n hx hb d_O_plan_33 rfl (lv_at hl 2 rfl) ?_
          refine r_calli (W.runV (As := [.int (nI ((plM (fun z => cjM (fun k => cost1 (fun z => selM kd sT dY (fun q => prM rA rC (aG q) rn) td k z pn) (fun q => prM rA rC (aG q) rn) (mnM nd z k jn)) 6) t).1))]) (rest := [.int (nI (szM (t + 1) 6))]) ⟨hx, hb, hml, hown, hts⟩ (c_O_sizeOf l D kC ad td rn pn an jn tn bm fw gp ga bp fc fj rA rC ft kd aG sR sT wh dY pd cN mN sv nd wr tl lt lT lD gv gn od br ((plM (fun z => cjM (fun k => cost1 (fun z => selM kd sT dY (fun q => prM rA rC (aG q) rn) td k z pn) (fun q => prM rA rC (aG q) rn) (mnM nd z k jn)) 6) t).1) (by omega)) (cwV 1 hts g_O_plan_sizeOf rfl rfl rfl (by decide +kernel) ⟨Nat.le_of_ble_eq_true rfl, Nat.le_of_ble_eq_true rfl⟩) (r_preV (f_recv (ci := 7) (q0 := 0) hK hP 0 rfl rfl rfl) hK hP) rfl rfl hl.1 rfl (lv_room (Nat.le_of_ble_eq_true rfl)) d_O_plan_34 ⟨Nat.le_of_ble_eq_true rfl, Nat.le_of_ble_eq_true rfl⟩) ?_
          refine nv_icmp_gt (tgt := 61) hx hb d_O_plan_37 (by decide) (Nat.lt_of_le_of_lt (szM_le _ _) (by decide)) (Nat.lt_of_le_of_lt (szM_le _ _) (by decide)) (fun h1 => ?_) (fun h1 => ?_)
          · refine lv_iconst (v := nI 1) hx hb d_O_plan_61 (by decide) ?_
            refine lv_goto (tgt := 66) hx hb d_O_plan_62 (by decide) ?_
            refine lv_istore (lv' := [(7, .int (nI 1)), (5, .long (lN o)), (0, .ref (ad 0)), (1, .int (nI ((plM (fun z => cjM (fun k => cost1 (fun z => selM kd sT dY (fun q => prM rA rC (aG q) rn) td k z pn) (fun q => prM rA rC (aG q) rn) (mnM nd z k jn)) 6) t).1))), (2, .long (lN ((plM (fun z => cjM (fun k => cost1 (fun z => selM kd sT dY (fun q => prM rA rC (aG q) rn) td k z pn) (fun q => prM rA rC (aG q) rn) (mnM nd z k jn)) 6) t).2))), (4, .int (nI (t + 1)))]) hx hb d_O_plan_66 hl (by decide) rfl (fun ls hl => ?_)
            refine lv_lload hx hb d_O_plan_68 (lv_at hl 1 rfl) ?_
            refine lv_lconst (v := lN 0) hx hb d_O_plan_70 (by decide) ?_
            refine lc_lt (tgt := 86) hx hb d_O_plan_71 d_O_plan_72 (by decide) (fun h4 => ?_) (fun h4 => ?_)
            · exact absurd h4 (Int64.not_lt.mpr ((lN_le (by decide) (by omega)).mpr (Nat.zero_le o)))
            · refine lv_iload hx hb d_O_plan_75 (lv_at hl 0 rfl) ?_
              refine nv_if_eq (tgt := 86) hx hb d_O_plan_77 (by decide) (by decide) (fun c9 => ?_) (fun c9 => ?_)
              · exact absurd c9 (by decide)
              · refine lv_iload hx hb d_O_plan_80 (lv_at hl 5 rfl) ?_
                refine lv_istore_n (lv' := [(1, .int (nI (t + 1))), (7, .int (nI 1)), (5, .long (lN o)), (0, .ref (ad 0)), (2, .long (lN ((plM (fun z => cjM (fun k => cost1 (fun z => selM kd sT dY (fun q => prM rA rC (aG q) rn) td k z pn) (fun q => prM rA rC (aG q) rn) (mnM nd z k jn)) 6) t).2))), (4, .int (nI (t + 1)))]) hx hb d_O_plan_82 rfl hl (by decide) rfl (fun ls hl => ?_)
                refine lv_lload hx hb d_O_plan_83 (lv_at hl 2 rfl) ?_
                refine lv_lstore_n (lv' := [(2, .long (lN o)), (1, .int (nI (t + 1))), (7, .int (nI 1)), (5, .long (lN o)), (0, .ref (ad 0)), (4, .int (nI (t + 1)))]) hx hb d_O_plan_85 rfl hl (by decide) rfl (fun ls hl => ?_)
                have el10 : nI (t + 1) = nI ((plM (fun z => cjM (fun k => cost1 (fun z => selM kd sT dY (fun q => prM rA rC (aG q) rn) td k z pn) (fun q => prM rA rC (aG q) rn) (mnM nd z k jn)) 6) (t + 1)).1) := congrArg nI (congrArg Prod.fst (show (plM (fun z => cjM (fun k => cost1 (fun z => selM kd sT dY (fun q => prM rA rC (aG q) rn) td k z pn) (fun q => prM rA rC (aG q) rn) (mnM nd z k jn)) 6) (t + 1)) = (t + 1, o) by simp only [plM, ho]; exact if_pos (by first | exact Or.inr ⟨h2, (lN_lt (by omega) (by omega)).mp (by simpa using h3)⟩ | exact Or.inl h1))).symm
                have hl : lv_has ls 8 [(2, .long (lN o)), (1, .int (nI ((plM (fun z => cjM (fun k => cost1 (fun z => selM kd sT dY (fun q => prM rA rC (aG q) rn) td k z pn) (fun q => prM rA rC (aG q) rn) (mnM nd z k jn)) 6) (t + 1)).1))), (7, .int (nI 1)), (5, .long (lN o)), (0, .ref (ad 0)), (4, .int (nI (t + 1)))] := by rw [← el10]; exact hl
                have el11 : lN o = lN ((plM (fun z => cjM (fun k => cost1 (fun z => selM kd sT dY (fun q => prM rA rC (aG q) rn) td k z pn) (fun q => prM rA rC (aG q) rn) (mnM nd z k jn)) 6) (t + 1)).2) := congrArg lN (congrArg Prod.snd (show (plM (fun z => cjM (fun k => cost1 (fun z => selM kd sT dY (fun q => prM rA rC (aG q) rn) td k z pn) (fun q => prM rA rC (aG q) rn) (mnM nd z k jn)) 6) (t + 1)) = (t + 1, o) by simp only [plM, ho]; exact if_pos (by first | exact Or.inr ⟨h2, (lN_lt (by omega) (by omega)).mp (by simpa using h3)⟩ | exact Or.inl h1))).symm
                have hl : lv_has ls 8 [(2, .long (lN ((plM (fun z => cjM (fun k => cost1 (fun z => selM kd sT dY (fun q => prM rA rC (aG q) rn) td k z pn) (fun q => prM rA rC (aG q) rn) (mnM nd z k jn)) 6) (t + 1)).2))), (1, .int (nI ((plM (fun z => cjM (fun k => cost1 (fun z => selM kd sT dY (fun q => prM rA rC (aG q) rn) td k z pn) (fun q => prM rA rC (aG q) rn) (mnM nd z k jn)) 6) (t + 1)).1))), (7, .int (nI 1)), (5, .long (lN o)), (0, .ref (ad 0)), (4, .int (nI (t + 1)))] := by rw [← el11]; exact hl
                refine lv_iinc (v := nI (t + 1 + 1)) (lv' := [(4, .int (nI (t + 1 + 1))), (2, .long (lN ((plM (fun z => cjM (fun k => cost1 (fun z => selM kd sT dY (fun q => prM rA rC (aG q) rn) td k z pn) (fun q => prM rA rC (aG q) rn) (mnM nd z k jn)) 6) (t + 1)).2))), (1, .int (nI ((plM (fun z => cjM (fun k => cost1 (fun z => selM kd sT dY (fun q => prM rA rC (aG q) rn) td k z pn) (fun q => prM rA rC (aG q) rn) (mnM nd z k jn)) 6) (t + 1)).1))), (7, .int (nI 1)), (5, .long (lN o)), (0, .ref (ad 0))]) hx hb d_O_plan_86 hl (k := 5) rfl (nI_1 (t + 1)) (by decide) rfl (fun ls hl => ?_)
                refine lv_goto (tgt := 7) hx hb d_O_plan_89 (by decide) ?_
                exact ih7 (t + 1) (by omega) (by omega) _ _ hP hD hS ls (lv_sub hl [5, 2, 1, 0] rfl)
          · refine lv_aload_n hx hb d_O_plan_40 rfl (lv_at hl 1 rfl) ?_
            refine lv_iload hx hb d_O_plan_41 (lv_at hl 4 rfl) ?_
            refine r_calli (W.runV (As := [.int (nI (t + 1))]) (rest := []) ⟨hx, hb, hml, hown, hts⟩ (c_O_sizeOf l D kC ad td rn pn an jn tn bm fw gp ga bp fc fj rA rC ft kd aG sR sT wh dY pd cN mN sv nd wr tl lt lT lD gv gn od br (t + 1) (by omega)) (cwV 1 hts g_O_plan_sizeOf rfl rfl rfl (by decide +kernel) ⟨Nat.le_of_ble_eq_true rfl, Nat.le_of_ble_eq_true rfl⟩) (r_preV (f_recv (ci := 7) (q0 := 0) hK hP 0 rfl rfl rfl) hK hP) rfl rfl hl.1 rfl (lv_room (Nat.le_of_ble_eq_true rfl)) d_O_plan_43 ⟨Nat.le_of_ble_eq_true rfl, Nat.le_of_ble_eq_true rfl⟩) ?_
            refine lv_aload_n hx hb d_O_plan_46 rfl (lv_at hl 1 rfl) ?_
            refine lv_iload_n hx hb d_O_plan_47 rfl (lv_at hl 2 rfl) ?_
            refine r_calli (W.runV (As := [.int (nI ((plM (fun z => cjM (fun k => cost1 (fun z => selM kd sT dY (fun q => prM rA rC (aG q) rn) td k z pn) (fun q => prM rA rC (aG q) rn) (mnM nd z k jn)) 6) t).1))]) (rest := [.int (nI (szM (t + 1) 6))]) ⟨hx, hb, hml, hown, hts⟩ (c_O_sizeOf l D kC ad td rn pn an jn tn bm fw gp ga bp fc fj rA rC ft kd aG sR sT wh dY pd cN mN sv nd wr tl lt lT lD gv gn od br ((plM (fun z => cjM (fun k => cost1 (fun z => selM kd sT dY (fun q => prM rA rC (aG q) rn) td k z pn) (fun q => prM rA rC (aG q) rn) (mnM nd z k jn)) 6) t).1) (by omega)) (cwV 1 hts g_O_plan_sizeOf rfl rfl rfl (by decide +kernel) ⟨Nat.le_of_ble_eq_true rfl, Nat.le_of_ble_eq_true rfl⟩) (r_preV (f_recv (ci := 7) (q0 := 0) hK hP 0 rfl rfl rfl) hK hP) rfl rfl hl.1 rfl (lv_room (Nat.le_of_ble_eq_true rfl)) d_O_plan_48 ⟨Nat.le_of_ble_eq_true rfl, Nat.le_of_ble_eq_true rfl⟩) ?_
            refine nv_icmp_ne (tgt := 65) hx hb d_O_plan_51 (by decide) (Nat.lt_of_le_of_lt (szM_le _ _) (by decide)) (Nat.lt_of_le_of_lt (szM_le _ _) (by decide)) (fun h2 => ?_) (fun h2 => ?_)
            · refine lv_iconst (v := nI 0) hx hb d_O_plan_65 (by decide) ?_
              refine lv_istore (lv' := [(7, .int (nI 0)), (5, .long (lN o)), (0, .ref (ad 0)), (1, .int (nI ((plM (fun z => cjM (fun k => cost1 (fun z => selM kd sT dY (fun q => prM rA rC (aG q) rn) td k z pn) (fun q => prM rA rC (aG q) rn) (mnM nd z k jn)) 6) t).1))), (2, .long (lN ((plM (fun z => cjM (fun k => cost1 (fun z => selM kd sT dY (fun q => prM rA rC (aG q) rn) td k z pn) (fun q => prM rA rC (aG q) rn) (mnM nd z k jn)) 6) t).2))), (4, .int (nI (t + 1)))]) hx hb d_O_plan_66 hl (by decide) rfl (fun ls hl => ?_)
              refine lv_lload hx hb d_O_plan_68 (lv_at hl 1 rfl) ?_
              refine lv_lconst (v := lN 0) hx hb d_O_plan_70 (by decide) ?_
              refine lc_lt (tgt := 86) hx hb d_O_plan_71 d_O_plan_72 (by decide) (fun h4 => ?_) (fun h4 => ?_)
              · exact absurd h4 (Int64.not_lt.mpr ((lN_le (by decide) (by omega)).mpr (Nat.zero_le o)))
              · refine lv_iload hx hb d_O_plan_75 (lv_at hl 0 rfl) ?_
                refine nv_if_eq (tgt := 86) hx hb d_O_plan_77 (by decide) (by decide) (fun c12 => ?_) (fun c12 => ?_)
                · have el13 : nI ((plM (fun z => cjM (fun k => cost1 (fun z => selM kd sT dY (fun q => prM rA rC (aG q) rn) td k z pn) (fun q => prM rA rC (aG q) rn) (mnM nd z k jn)) 6) t).1) = nI ((plM (fun z => cjM (fun k => cost1 (fun z => selM kd sT dY (fun q => prM rA rC (aG q) rn) td k z pn) (fun q => prM rA rC (aG q) rn) (mnM nd z k jn)) 6) (t + 1)).1) := congrArg nI (congrArg Prod.fst (show (plM (fun z => cjM (fun k => cost1 (fun z => selM kd sT dY (fun q => prM rA rC (aG q) rn) td k z pn) (fun q => prM rA rC (aG q) rn) (mnM nd z k jn)) 6) (t + 1)) = (plM (fun z => cjM (fun k => cost1 (fun z => selM kd sT dY (fun q => prM rA rC (aG q) rn) td k z pn) (fun q => prM rA rC (aG q) rn) (mnM nd z k jn)) 6) t) by simp only [plM, ho]; exact if_neg (fun y => y.elim (fun z => by omega) (fun z => by first | exact h2 z.1 | exact absurd ((lN_lt (by omega) (by omega)).mpr z.2) (by simpa using h3))))).symm
                  have hl : lv_has ls 8 [(7, .int (nI 0)), (5, .long (lN o)), (0, .ref (ad 0)), (1, .int (nI ((plM (fun z => cjM (fun k => cost1 (fun z => selM kd sT dY (fun q => prM rA rC (aG q) rn) td k z pn) (fun q => prM rA rC (aG q) rn) (mnM nd z k jn)) 6) (t + 1)).1))), (2, .long (lN ((plM (fun z => cjM (fun k => cost1 (fun z => selM kd sT dY (fun q => prM rA rC (aG q) rn) td k z pn) (fun q => prM rA rC (aG q) rn) (mnM nd z k jn)) 6) t).2))), (4, .int (nI (t + 1)))] := by rw [← el13]; exact hl
                  have el14 : lN ((plM (fun z => cjM (fun k => cost1 (fun z => selM kd sT dY (fun q => prM rA rC (aG q) rn) td k z pn) (fun q => prM rA rC (aG q) rn) (mnM nd z k jn)) 6) t).2) = lN ((plM (fun z => cjM (fun k => cost1 (fun z => selM kd sT dY (fun q => prM rA rC (aG q) rn) td k z pn) (fun q => prM rA rC (aG q) rn) (mnM nd z k jn)) 6) (t + 1)).2) := congrArg lN (congrArg Prod.snd (show (plM (fun z => cjM (fun k => cost1 (fun z => selM kd sT dY (fun q => prM rA rC (aG q) rn) td k z pn) (fun q => prM rA rC (aG q) rn) (mnM nd z k jn)) 6) (t + 1)) = (plM (fun z => cjM (fun k => cost1 (fun z => selM kd sT dY (fun q => prM rA rC (aG q) rn) td k z pn) (fun q => prM rA rC (aG q) rn) (mnM nd z k jn)) 6) t) by simp only [plM, ho]; exact if_neg (fun y => y.elim (fun z => by omega) (fun z => by first | exact h2 z.1 | exact absurd ((lN_lt (by omega) (by omega)).mpr z.2) (by simpa using h3))))).symm
                  have hl : lv_has ls 8 [(7, .int (nI 0)), (5, .long (lN o)), (0, .ref (ad 0)), (1, .int (nI ((plM (fun z => cjM (fun k => cost1 (fun z => selM kd sT dY (fun q => prM rA rC (aG q) rn) td k z pn) (fun q => prM rA rC (aG q) rn) (mnM nd z k jn)) 6) (t + 1)).1))), (2, .long (lN ((plM (fun z => cjM (fun k => cost1 (fun z => selM kd sT dY (fun q => prM rA rC (aG q) rn) td k z pn) (fun q => prM rA rC (aG q) rn) (mnM nd z k jn)) 6) (t + 1)).2))), (4, .int (nI (t + 1)))] := by rw [← el14]; exact hl
                  refine lv_iinc (v := nI (t + 1 + 1)) (lv' := [(4, .int (nI (t + 1 + 1))), (7, .int (nI 0)), (5, .long (lN o)), (0, .ref (ad 0)), (1, .int (nI ((plM (fun z => cjM (fun k => cost1 (fun z => selM kd sT dY (fun q => prM rA rC (aG q) rn) td k z pn) (fun q => prM rA rC (aG q) rn) (mnM nd z k jn)) 6) (t + 1)).1))), (2, .long (lN ((plM (fun z => cjM (fun k => cost1 (fun z => selM kd sT dY (fun q => prM rA rC (aG q) rn) td k z pn) (fun q => prM rA rC (aG q) rn) (mnM nd z k jn)) 6) (t + 1)).2)))]) hx hb d_O_plan_86 hl (k := 5) rfl (nI_1 (t + 1)) (by decide) rfl (fun ls hl => ?_)
                  refine lv_goto (tgt := 7) hx hb d_O_plan_89 (by decide) ?_
                  exact ih7 (t + 1) (by omega) (by omega) _ _ hP hD hS ls (lv_sub hl [3, 4, 5, 0] rfl)
                · exact absurd c12 (by decide)
            · refine lv_lload hx hb d_O_plan_54 (lv_at hl 0 rfl) ?_
              refine lv_lload_n hx hb d_O_plan_56 rfl (lv_at hl 3 rfl) ?_
              refine lc_ge (tgt := 65) hx hb d_O_plan_57 d_O_plan_58 (by decide) (fun h3 => ?_) (fun h3 => ?_)
              · refine lv_iconst (v := nI 0) hx hb d_O_plan_65 (by decide) ?_
                refine lv_istore (lv' := [(7, .int (nI 0)), (5, .long (lN o)), (0, .ref (ad 0)), (1, .int (nI ((plM (fun z => cjM (fun k => cost1 (fun z => selM kd sT dY (fun q => prM rA rC (aG q) rn) td k z pn) (fun q => prM rA rC (aG q) rn) (mnM nd z k jn)) 6) t).1))), (2, .long (lN ((plM (fun z => cjM (fun k => cost1 (fun z => selM kd sT dY (fun q => prM rA rC (aG q) rn) td k z pn) (fun q => prM rA rC (aG q) rn) (mnM nd z k jn)) 6) t).2))), (4, .int (nI (t + 1)))]) hx hb d_O_plan_66 hl (by decide) rfl (fun ls hl => ?_)
                refine lv_lload hx hb d_O_plan_68 (lv_at hl 1 rfl) ?_
                refine lv_lconst (v := lN 0) hx hb d_O_plan_70 (by decide) ?_
                refine lc_lt (tgt := 86) hx hb d_O_plan_71 d_O_plan_72 (by decide) (fun h4 => ?_) (fun h4 => ?_)
                · exact absurd h4 (Int64.not_lt.mpr ((lN_le (by decide) (by omega)).mpr (Nat.zero_le o)))
                · refine lv_iload hx hb d_O_plan_75 (lv_at hl 0 rfl) ?_
                  refine nv_if_eq (tgt := 86) hx hb d_O_plan_77 (by decide) (by decide) (fun c15 => ?_) (fun c15 => ?_)
                  · have el16 : nI ((plM (fun z => cjM (fun k => cost1 (fun z => selM kd sT dY (fun q => prM rA rC (aG q) rn) td k z pn) (fun q => prM rA rC (aG q) rn) (mnM nd z k jn)) 6) t).1) = nI ((plM (fun z => cjM (fun k => cost1 (fun z => selM kd sT dY (fun q => prM rA rC (aG q) rn) td k z pn) (fun q => prM rA rC (aG q) rn) (mnM nd z k jn)) 6) (t + 1)).1) := congrArg nI (congrArg Prod.fst (show (plM (fun z => cjM (fun k => cost1 (fun z => selM kd sT dY (fun q => prM rA rC (aG q) rn) td k z pn) (fun q => prM rA rC (aG q) rn) (mnM nd z k jn)) 6) (t + 1)) = (plM (fun z => cjM (fun k => cost1 (fun z => selM kd sT dY (fun q => prM rA rC (aG q) rn) td k z pn) (fun q => prM rA rC (aG q) rn) (mnM nd z k jn)) 6) t) by simp only [plM, ho]; exact if_neg (fun y => y.elim (fun z => by omega) (fun z => by first | exact h2 z.1 | exact absurd ((lN_lt (by omega) (by omega)).mpr z.2) (by simpa using h3))))).symm
                    have hl : lv_has ls 8 [(7, .int (nI 0)), (5, .long (lN o)), (0, .ref (ad 0)), (1, .int (nI ((plM (fun z => cjM (fun k => cost1 (fun z => selM kd sT dY (fun q => prM rA rC (aG q) rn) td k z pn) (fun q => prM rA rC (aG q) rn) (mnM nd z k jn)) 6) (t + 1)).1))), (2, .long (lN ((plM (fun z => cjM (fun k => cost1 (fun z => selM kd sT dY (fun q => prM rA rC (aG q) rn) td k z pn) (fun q => prM rA rC (aG q) rn) (mnM nd z k jn)) 6) t).2))), (4, .int (nI (t + 1)))] := by rw [← el16]; exact hl
                    have el17 : lN ((plM (fun z => cjM (fun k => cost1 (fun z => selM kd sT dY (fun q => prM rA rC (aG q) rn) td k z pn) (fun q => prM rA rC (aG q) rn) (mnM nd z k jn)) 6) t).2) = lN ((plM (fun z => cjM (fun k => cost1 (fun z => selM kd sT dY (fun q => prM rA rC (aG q) rn) td k z pn) (fun q => prM rA rC (aG q) rn) (mnM nd z k jn)) 6) (t + 1)).2) := congrArg lN (congrArg Prod.snd (show (plM (fun z => cjM (fun k => cost1 (fun z => selM kd sT dY (fun q => prM rA rC (aG q) rn) td k z pn) (fun q => prM rA rC (aG q) rn) (mnM nd z k jn)) 6) (t + 1)) = (plM (fun z => cjM (fun k => cost1 (fun z => selM kd sT dY (fun q => prM rA rC (aG q) rn) td k z pn) (fun q => prM rA rC (aG q) rn) (mnM nd z k jn)) 6) t) by simp only [plM, ho]; exact if_neg (fun y => y.elim (fun z => by omega) (fun z => by first | exact h2 z.1 | exact absurd ((lN_lt (by omega) (by omega)).mpr z.2) (by simpa using h3))))).symm
                    have hl : lv_has ls 8 [(7, .int (nI 0)), (5, .long (lN o)), (0, .ref (ad 0)), (1, .int (nI ((plM (fun z => cjM (fun k => cost1 (fun z => selM kd sT dY (fun q => prM rA rC (aG q) rn) td k z pn) (fun q => prM rA rC (aG q) rn) (mnM nd z k jn)) 6) (t + 1)).1))), (2, .long (lN ((plM (fun z => cjM (fun k => cost1 (fun z => selM kd sT dY (fun q => prM rA rC (aG q) rn) td k z pn) (fun q => prM rA rC (aG q) rn) (mnM nd z k jn)) 6) (t + 1)).2))), (4, .int (nI (t + 1)))] := by rw [← el17]; exact hl
                    refine lv_iinc (v := nI (t + 1 + 1)) (lv' := [(4, .int (nI (t + 1 + 1))), (7, .int (nI 0)), (5, .long (lN o)), (0, .ref (ad 0)), (1, .int (nI ((plM (fun z => cjM (fun k => cost1 (fun z => selM kd sT dY (fun q => prM rA rC (aG q) rn) td k z pn) (fun q => prM rA rC (aG q) rn) (mnM nd z k jn)) 6) (t + 1)).1))), (2, .long (lN ((plM (fun z => cjM (fun k => cost1 (fun z => selM kd sT dY (fun q => prM rA rC (aG q) rn) td k z pn) (fun q => prM rA rC (aG q) rn) (mnM nd z k jn)) 6) (t + 1)).2)))]) hx hb d_O_plan_86 hl (k := 5) rfl (nI_1 (t + 1)) (by decide) rfl (fun ls hl => ?_)
                    refine lv_goto (tgt := 7) hx hb d_O_plan_89 (by decide) ?_
                    exact ih7 (t + 1) (by omega) (by omega) _ _ hP hD hS ls (lv_sub hl [3, 4, 5, 0] rfl)
                  · exact absurd c15 (by decide)
              · refine lv_iconst (v := nI 1) hx hb d_O_plan_61 (by decide) ?_
                refine lv_goto (tgt := 66) hx hb d_O_plan_62 (by decide) ?_
                refine lv_istore (lv' := [(7, .int (nI 1)), (5, .long (lN o)), (0, .ref (ad 0)), (1, .int (nI ((plM (fun z => cjM (fun k => cost1 (fun z => selM kd sT dY (fun q => prM rA rC (aG q) rn) td k z pn) (fun q => prM rA rC (aG q) rn) (mnM nd z k jn)) 6) t).1))), (2, .long (lN ((plM (fun z => cjM (fun k => cost1 (fun z => selM kd sT dY (fun q => prM rA rC (aG q) rn) td k z pn) (fun q => prM rA rC (aG q) rn) (mnM nd z k jn)) 6) t).2))), (4, .int (nI (t + 1)))]) hx hb d_O_plan_66 hl (by decide) rfl (fun ls hl => ?_)
                refine lv_lload hx hb d_O_plan_68 (lv_at hl 1 rfl) ?_
                refine lv_lconst (v := lN 0) hx hb d_O_plan_70 (by decide) ?_
                refine lc_lt (tgt := 86) hx hb d_O_plan_71 d_O_plan_72 (by decide) (fun h4 => ?_) (fun h4 => ?_)
                · exact absurd h4 (Int64.not_lt.mpr ((lN_le (by decide) (by omega)).mpr (Nat.zero_le o)))
                · refine lv_iload hx hb d_O_plan_75 (lv_at hl 0 rfl) ?_
                  refine nv_if_eq (tgt := 86) hx hb d_O_plan_77 (by decide) (by decide) (fun c18 => ?_) (fun c18 => ?_)
                  · exact absurd c18 (by decide)
                  · refine lv_iload hx hb d_O_plan_80 (lv_at hl 5 rfl) ?_
                    refine lv_istore_n (lv' := [(1, .int (nI (t + 1))), (7, .int (nI 1)), (5, .long (lN o)), (0, .ref (ad 0)), (2, .long (lN ((plM (fun z => cjM (fun k => cost1 (fun z => selM kd sT dY (fun q => prM rA rC (aG q) rn) td k z pn) (fun q => prM rA rC (aG q) rn) (mnM nd z k jn)) 6) t).2))), (4, .int (nI (t + 1)))]) hx hb d_O_plan_82 rfl hl (by decide) rfl (fun ls hl => ?_)
                    refine lv_lload hx hb d_O_plan_83 (lv_at hl 2 rfl) ?_
                    refine lv_lstore_n (lv' := [(2, .long (lN o)), (1, .int (nI (t + 1))), (7, .int (nI 1)), (5, .long (lN o)), (0, .ref (ad 0)), (4, .int (nI (t + 1)))]) hx hb d_O_plan_85 rfl hl (by decide) rfl (fun ls hl => ?_)
                    have el19 : nI (t + 1) = nI ((plM (fun z => cjM (fun k => cost1 (fun z => selM kd sT dY (fun q => prM rA rC (aG q) rn) td k z pn) (fun q => prM rA rC (aG q) rn) (mnM nd z k jn)) 6) (t + 1)).1) := congrArg nI (congrArg Prod.fst (show (plM (fun z => cjM (fun k => cost1 (fun z => selM kd sT dY (fun q => prM rA rC (aG q) rn) td k z pn) (fun q => prM rA rC (aG q) rn) (mnM nd z k jn)) 6) (t + 1)) = (t + 1, o) by simp only [plM, ho]; exact if_pos (by first | exact Or.inr ⟨h2, (lN_lt (by omega) (by omega)).mp (by simpa using h3)⟩ | exact Or.inl h1))).symm
                    have hl : lv_has ls 8 [(2, .long (lN o)), (1, .int (nI ((plM (fun z => cjM (fun k => cost1 (fun z => selM kd sT dY (fun q => prM rA rC (aG q) rn) td k z pn) (fun q => prM rA rC (aG q) rn) (mnM nd z k jn)) 6) (t + 1)).1))), (7, .int (nI 1)), (5, .long (lN o)), (0, .ref (ad 0)), (4, .int (nI (t + 1)))] := by rw [← el19]; exact hl
                    have el20 : lN o = lN ((plM (fun z => cjM (fun k => cost1 (fun z => selM kd sT dY (fun q => prM rA rC (aG q) rn) td k z pn) (fun q => prM rA rC (aG q) rn) (mnM nd z k jn)) 6) (t + 1)).2) := congrArg lN (congrArg Prod.snd (show (plM (fun z => cjM (fun k => cost1 (fun z => selM kd sT dY (fun q => prM rA rC (aG q) rn) td k z pn) (fun q => prM rA rC (aG q) rn) (mnM nd z k jn)) 6) (t + 1)) = (t + 1, o) by simp only [plM, ho]; exact if_pos (by first | exact Or.inr ⟨h2, (lN_lt (by omega) (by omega)).mp (by simpa using h3)⟩ | exact Or.inl h1))).symm
                    have hl : lv_has ls 8 [(2, .long (lN ((plM (fun z => cjM (fun k => cost1 (fun z => selM kd sT dY (fun q => prM rA rC (aG q) rn) td k z pn) (fun q => prM rA rC (aG q) rn) (mnM nd z k jn)) 6) (t + 1)).2))), (1, .int (nI ((plM (fun z => cjM (fun k => cost1 (fun z => selM kd sT dY (fun q => prM rA rC (aG q) rn) td k z pn) (fun q => prM rA rC (aG q) rn) (mnM nd z k jn)) 6) (t + 1)).1))), (7, .int (nI 1)), (5, .long (lN o)), (0, .ref (ad 0)), (4, .int (nI (t + 1)))] := by rw [← el20]; exact hl
                    refine lv_iinc (v := nI (t + 1 + 1)) (lv' := [(4, .int (nI (t + 1 + 1))), (2, .long (lN ((plM (fun z => cjM (fun k => cost1 (fun z => selM kd sT dY (fun q => prM rA rC (aG q) rn) td k z pn) (fun q => prM rA rC (aG q) rn) (mnM nd z k jn)) 6) (t + 1)).2))), (1, .int (nI ((plM (fun z => cjM (fun k => cost1 (fun z => selM kd sT dY (fun q => prM rA rC (aG q) rn) td k z pn) (fun q => prM rA rC (aG q) rn) (mnM nd z k jn)) 6) (t + 1)).1))), (7, .int (nI 1)), (5, .long (lN o)), (0, .ref (ad 0))]) hx hb d_O_plan_86 hl (k := 5) rfl (nI_1 (t + 1)) (by decide) rfl (fun ls hl => ?_)
                    refine lv_goto (tgt := 7) hx hb d_O_plan_89 (by decide) ?_
                    exact ih7 (t + 1) (by omega) (by omega) _ _ hP hD hS ls (lv_sub hl [5, 2, 1, 0] rfl)
  exact L7 _ 0 (Nat.lt_succ_self _) (by omega) _ _ hP hD hS ls (lv_sub hl [3, 2, 1, 0] rfl)

