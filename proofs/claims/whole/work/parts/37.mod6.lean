abbrev b_O_partFor : ByteArray := prog_9_method_22_code
def y_O_partFor : MethodName := ⟨"PartShelvesModel", "partFor", "(II)I"⟩
theorem d_O_partFor_0 : decode b_O_partFor 0 = .ok (.iconst 0, 1) := by decide +kernel
theorem d_O_partFor_1 : decode b_O_partFor 1 = .ok (.istore_n 3, 1) := by decide +kernel
theorem d_O_partFor_2 : decode b_O_partFor 2 = .ok (.iload_n 3, 1) := by decide +kernel
theorem d_O_partFor_3 : decode b_O_partFor 3 = .ok (.aload_n 0, 1) := by decide +kernel
theorem d_O_partFor_4 : decode b_O_partFor 4 = .ok (.getfield 81, 3) := by decide +kernel
theorem d_O_partFor_7 : decode b_O_partFor 7 = .ok (.if_icmp .ge 97, 3) := by decide +kernel
theorem d_O_partFor_10 : decode b_O_partFor 10 = .ok (.iload_n 2, 1) := by decide +kernel
theorem d_O_partFor_11 : decode b_O_partFor 11 = .ok (.iload_n 3, 1) := by decide +kernel
theorem d_O_partFor_12 : decode b_O_partFor 12 = .ok (.ishr, 1) := by decide +kernel
theorem d_O_partFor_13 : decode b_O_partFor 13 = .ok (.iconst 1, 1) := by decide +kernel
theorem d_O_partFor_14 : decode b_O_partFor 14 = .ok (.iand, 1) := by decide +kernel
theorem d_O_partFor_15 : decode b_O_partFor 15 = .ok (.ifCond .ne 21, 3) := by decide +kernel
theorem d_O_partFor_18 : decode b_O_partFor 18 = .ok (.aload_n 0, 1) := by decide +kernel
theorem d_O_partFor_19 : decode b_O_partFor 19 = .ok (.iload_n 3, 1) := by decide +kernel
theorem d_O_partFor_20 : decode b_O_partFor 20 = .ok (.aload_n 0, 1) := by decide +kernel
theorem d_O_partFor_21 : decode b_O_partFor 21 = .ok (.getfield 75, 3) := by decide +kernel
theorem d_O_partFor_24 : decode b_O_partFor 24 = .ok (.iload_n 1, 1) := by decide +kernel
theorem d_O_partFor_25 : decode b_O_partFor 25 = .ok (.iaload, 1) := by decide +kernel
theorem d_O_partFor_26 : decode b_O_partFor 26 = .ok (.invokevirtual 126, 3) := by decide +kernel
theorem d_O_partFor_29 : decode b_O_partFor 29 = .ok (.ifCond .eq 7, 3) := by decide +kernel
theorem d_O_partFor_32 : decode b_O_partFor 32 = .ok (.iconst 1, 1) := by decide +kernel
theorem d_O_partFor_33 : decode b_O_partFor 33 = .ok (.goto 4, 3) := by decide +kernel
theorem d_O_partFor_36 : decode b_O_partFor 36 = .ok (.iconst 0, 1) := by decide +kernel
theorem d_O_partFor_37 : decode b_O_partFor 37 = .ok (.istore 4, 2) := by decide +kernel
theorem d_O_partFor_39 : decode b_O_partFor 39 = .ok (.iload 4, 2) := by decide +kernel
theorem d_O_partFor_41 : decode b_O_partFor 41 = .ok (.ifCond .eq 57, 3) := by decide +kernel
theorem d_O_partFor_44 : decode b_O_partFor 44 = .ok (.aload_n 0, 1) := by decide +kernel
theorem d_O_partFor_45 : decode b_O_partFor 45 = .ok (.getfield 42, 3) := by decide +kernel
theorem d_O_partFor_48 : decode b_O_partFor 48 = .ok (.aload_n 0, 1) := by decide +kernel
theorem d_O_partFor_49 : decode b_O_partFor 49 = .ok (.getfield 75, 3) := by decide +kernel
theorem d_O_partFor_52 : decode b_O_partFor 52 = .ok (.iload_n 1, 1) := by decide +kernel
theorem d_O_partFor_53 : decode b_O_partFor 53 = .ok (.iaload, 1) := by decide +kernel
theorem d_O_partFor_54 : decode b_O_partFor 54 = .ok (.laload, 1) := by decide +kernel
theorem d_O_partFor_55 : decode b_O_partFor 55 = .ok (.aload_n 0, 1) := by decide +kernel
theorem d_O_partFor_56 : decode b_O_partFor 56 = .ok (.iload_n 3, 1) := by decide +kernel
theorem d_O_partFor_57 : decode b_O_partFor 57 = .ok (.invokevirtual 111, 3) := by decide +kernel
theorem d_O_partFor_60 : decode b_O_partFor 60 = .ok (.lsub, 1) := by decide +kernel
theorem d_O_partFor_61 : decode b_O_partFor 61 = .ok (.aload_n 0, 1) := by decide +kernel
theorem d_O_partFor_62 : decode b_O_partFor 62 = .ok (.getfield 78, 3) := by decide +kernel
theorem d_O_partFor_65 : decode b_O_partFor 65 = .ok (.sipush 256, 3) := by decide +kernel
theorem d_O_partFor_68 : decode b_O_partFor 68 = .ok (.iload_n 1, 1) := by decide +kernel
theorem d_O_partFor_69 : decode b_O_partFor 69 = .ok (.iconst 1, 1) := by decide +kernel
theorem d_O_partFor_70 : decode b_O_partFor 70 = .ok (.iadd, 1) := by decide +kernel
theorem d_O_partFor_71 : decode b_O_partFor 71 = .ok (.imul, 1) := by decide +kernel
theorem d_O_partFor_72 : decode b_O_partFor 72 = .ok (.iload_n 2, 1) := by decide +kernel
theorem d_O_partFor_73 : decode b_O_partFor 73 = .ok (.iconst 1, 1) := by decide +kernel
theorem d_O_partFor_74 : decode b_O_partFor 74 = .ok (.iload_n 3, 1) := by decide +kernel
theorem d_O_partFor_75 : decode b_O_partFor 75 = .ok (.ishl, 1) := by decide +kernel
theorem d_O_partFor_76 : decode b_O_partFor 76 = .ok (.ior, 1) := by decide +kernel
theorem d_O_partFor_77 : decode b_O_partFor 77 = .ok (.iadd, 1) := by decide +kernel
theorem d_O_partFor_78 : decode b_O_partFor 78 = .ok (.laload, 1) := by decide +kernel
theorem d_O_partFor_79 : decode b_O_partFor 79 = .ok (.ladd, 1) := by decide +kernel
theorem d_O_partFor_80 : decode b_O_partFor 80 = .ok (.aload_n 0, 1) := by decide +kernel
theorem d_O_partFor_81 : decode b_O_partFor 81 = .ok (.getfield 78, 3) := by decide +kernel
theorem d_O_partFor_84 : decode b_O_partFor 84 = .ok (.sipush 256, 3) := by decide +kernel
theorem d_O_partFor_87 : decode b_O_partFor 87 = .ok (.iload_n 1, 1) := by decide +kernel
theorem d_O_partFor_88 : decode b_O_partFor 88 = .ok (.imul, 1) := by decide +kernel
theorem d_O_partFor_89 : decode b_O_partFor 89 = .ok (.iload_n 2, 1) := by decide +kernel
theorem d_O_partFor_90 : decode b_O_partFor 90 = .ok (.iadd, 1) := by decide +kernel
theorem d_O_partFor_91 : decode b_O_partFor 91 = .ok (.laload, 1) := by decide +kernel
theorem d_O_partFor_92 : decode b_O_partFor 92 = .ok (.lcmp, 1) := by decide +kernel
theorem d_O_partFor_93 : decode b_O_partFor 93 = .ok (.ifCond .ne 5, 3) := by decide +kernel
theorem d_O_partFor_96 : decode b_O_partFor 96 = .ok (.iload_n 3, 1) := by decide +kernel
theorem d_O_partFor_97 : decode b_O_partFor 97 = .ok (.ireturn, 1) := by decide +kernel
theorem d_O_partFor_98 : decode b_O_partFor 98 = .ok (.iinc 3 1, 3) := by decide +kernel
theorem d_O_partFor_101 : decode b_O_partFor 101 = .ok (.goto (-99), 3) := by decide +kernel
theorem d_O_partFor_104 : decode b_O_partFor 104 = .ok (.iconst (-1), 1) := by decide +kernel
theorem d_O_partFor_105 : decode b_O_partFor 105 = .ok (.ireturn, 1) := by decide +kernel
def w_O_partFor : List Cond := .code y_O_partFor b_O_partFor 5 (some .int) :: ([.fieldLink "PartShelvesModel" 81 "PartShelvesModel" "parts" "I", .fieldLink "PartShelvesModel" 75 "PartShelvesModel" "order" "[I", .methodLink "PartShelvesModel" 126 ⟨"PartShelvesModel", "isPair", "(II)Z"⟩, .instanceMethod ⟨"PartShelvesModel", "isPair", "(II)Z"⟩, .selects "PartShelvesModel" ⟨"PartShelvesModel", "isPair", "(II)Z"⟩ ⟨"PartShelvesModel", "isPair", "(II)Z"⟩, .initialized "PartShelvesModel", .code ⟨"PartShelvesModel", "isPair", "(II)Z"⟩ prog_9_method_18_code 4 (some .boolean), .methodLink "PartShelvesModel" 117 ⟨"PartShelvesModel", "stateOf", "(I)I"⟩, .instanceMethod ⟨"PartShelvesModel", "stateOf", "(I)I"⟩, .selects "PartShelvesModel" ⟨"PartShelvesModel", "stateOf", "(I)I"⟩ ⟨"PartShelvesModel", "stateOf", "(I)I"⟩, .code ⟨"PartShelvesModel", "stateOf", "(I)I"⟩ prog_9_method_14_code 2 (some .int), .fieldLink "PartShelvesModel" 30 "PartShelvesModel" "states" "[I", .fieldLink "PartShelvesModel" 36 "PartShelvesModel" "days" "[I", .fieldLink "PartShelvesModel" 88 "PartShelvesModel" "today" "I", .fieldLink "PartShelvesModel" 33 "PartShelvesModel" "whose" "[I", .methodLink "PartShelvesModel" 123 ⟨"PartShelvesModel", "isOpen", "(I)Z"⟩, .instanceMethod ⟨"PartShelvesModel", "isOpen", "(I)Z"⟩, .selects "PartShelvesModel" ⟨"PartShelvesModel", "isOpen", "(I)Z"⟩ ⟨"PartShelvesModel", "isOpen", "(I)Z"⟩, .code ⟨"PartShelvesModel", "isOpen", "(I)Z"⟩ prog_9_method_7_code 2 (some .boolean), .fieldLink "PartShelvesModel" 85 "PartShelvesModel" "asks" "I", .fieldLink "PartShelvesModel" 48 "PartShelvesModel" "served" "[Z", .fieldLink "PartShelvesModel" 17 "PartShelvesModel" "fits" "[Z", .fieldLink "PartShelvesModel" 21 "PartShelvesModel" "kinds" "[I", .fieldLink "PartShelvesModel" 39 "PartShelvesModel" "products" "[I", .fieldLink "PartShelvesModel" 42 "PartShelvesModel" "cents" "[J", .methodLink "PartShelvesModel" 111 ⟨"PartShelvesModel", "priceOf", "(I)J"⟩, .instanceMethod ⟨"PartShelvesModel", "priceOf", "(I)J"⟩, .selects "PartShelvesModel" ⟨"PartShelvesModel", "priceOf", "(I)J"⟩ ⟨"PartShelvesModel", "priceOf", "(I)J"⟩, .code ⟨"PartShelvesModel", "priceOf", "(I)J"⟩ prog_9_method_12_code 5 (some .long), .fieldLink "PartShelvesModel" 97 "PartShelvesModel" "rows" "I", .fieldLink "PartShelvesModel" 7 "PartShelvesModel" "rowAges" "[I", .fieldLink "PartShelvesModel" 24 "PartShelvesModel" "ages" "[I", .fieldLink "PartShelvesModel" 13 "PartShelvesModel" "rowCents" "[J", .fieldLink "PartShelvesModel" 78 "PartShelvesModel" "brings" "[J"] ++ u_ws R_O F_O 36)
set_option maxRecDepth 20000 in
theorem g_O_partFor_isPair : GoodIn w_O_partFor (wsV R_O 126 R_O y_O_isPair w_O_isPair) := goodIn_p _ [7, 11, 19, 29] rfl (by decide +kernel)
set_option maxRecDepth 20000 in
theorem g_O_partFor_priceOf : GoodIn w_O_partFor (wsV R_O 111 R_O y_O_priceOf w_O_priceOf) := goodIn_p _ [29] rfl (by decide +kernel)
set_option maxHeartbeats 4000000 in
set_option maxRecDepth 100000 in
theorem c_O_pf (l : Launch) (D : va_G) (kC : Nat → ClassId) (ad : Nat → Nat) (td : Nat) (rn : Nat) (pn : Nat) (an : Nat) (jn : Nat) (tn : Nat) (bm : Int32) (fw : Int64) (gp : Nat) (ga : Nat) (bp : Int32) (fc : Int64) (fj : Nat) (rA : Nat → Nat) (rC : Nat → Nat) (ft : Nat → Int32) (kd : Nat → Nat) (aG : Nat → Nat) (sR : Nat → Nat) (sT : Nat → Nat) (wh : Nat → Nat) (dY : Nat → Nat) (pd : Nat → Nat) (cN : Nat → Nat) (mN : Nat → Nat) (sv : Nat → Int32) (nd : Nat → Nat) (wr : Nat → Nat) (tl : Nat → Nat) (lt : Nat → Int32) (lT : Nat → Nat) (lD : Nat → Nat) (gv : Nat → Int32) (gn : Nat → Int64) (od : Nat → Nat) (br : Nat → Nat) (i : Nat) (z : Nat) (w : Nat → Option Nat) (g1 : Nat → Nat) (hi : i < 8) (hz : z < 256) (han : an ≤ 8) (hpn : pn ≤ 8) (hsT : ∀ j, sT j ≤ 3) (hdY : ∀ j, dY j ≤ 100000) (htd : td ≤ 100000) (hrn : rn ≤ 6) (hrA : ∀ j, rA j ≤ 1000) (haG : ∀ j, aG j ≤ 1000) (hkd : ∀ j, kd j < 6) (hpd : ∀ j, pd j < 6) (hcN : ∀ j, cN j ≤ 1000000) (hrC : ∀ j, rC j ≤ 100000) (hwh : ∀ j, wh j < 10) (hod : ∀ j, od j < 8) (hw : ∀ q, q < pn → w q = if prsO td rn an rA rC ft kd aG sT wh dY pd cN sv q (od i) then some (cN (od i) - prM rA rC (aG q) rn) else none) (hg1 : ∀ y, y < 256 → br (256 * (i + 1) + y) = g1 y) (hgb : ∀ y, g1 y ≤ 8000000) (htb : br (256 * i + z) ≤ 8000000) : Met l y_O_partFor w_O_partFor ({ frames := 2, cells := 0, slots := 0, locals := 47 } : Room) (gPr cls D (tyL kC) [.ref (ad 0), .int (nI i), .int (nI z)] (fl [(wO kC ad td rn pn an jn tn bm fw gp ga bp fc fj rA rC ft kd aG sR sT wh dY pd cN mN sv nd wr tl lt lT lD gv gn od br)])) (vp_Si (fun r => r = pfI (pfO w g1 (br (256 * i + z)) z pn 0))) 0 0 (fun _ => False) := by
  refine Met.ofW (cc := b_O_partFor) (maxL := 5) (ret := (some .int)) (by decide) rfl ?_
  intro p e s m args below meth c s₁ B hml hv
  obtain ⟨rfl, hP, hK⟩ := hv
  have hx := B.exec
  have hb := B.bytes
  have hr := B.returns
  have hts := atoms_spec (ws := w_O_partFor) B.pre
  have hown : s.vm.findClass R_O = some m.cls := findClass_of_methodNamed B.named
  have hlocks := B.notSynchronized
  have hl := lv_entry ([.ref (ad 0), .int (nI i), .int (nI z)]) (n := 5) (Nat.le_of_ble_eq_true rfl)
  rw [lg_entry_eq]
  generalize (lg_sl ([.ref (ad 0), .int (nI i), .int (nI z)]) ++ List.replicate (5 - (lg_sl ([.ref (ad 0), .int (nI i), .int (nI z)])).length) Slot.unset).toArray = ls at hl ⊢
  have hl : lv_has ls 5 [(0, .ref (ad 0)), (1, .int (nI i)), (2, .int (nI z))] := hl
  refine lv_iconst (v := nI 0) hx hb d_O_partFor_0 (by decide) ?_
  refine lv_istore_n (lv' := [(3, .int (nI 0)), (0, .ref (ad 0)), (1, .int (nI i)), (2, .int (nI z))]) hx hb d_O_partFor_1 rfl hl (by decide) rfl (fun ls hl => ?_)
  have L2 : ∀ (n2 : Nat) (q : Nat) (f : Nat), f < n2 → q + f = pn → pfI (pfO w g1 (br (256 * i + z)) z f q) = pfI (pfO w g1 (br (256 * i + z)) z pn 0) → ∀ (ls : Array Slot), lv_has ls 5 [(0, .ref (ad 0)), (1, .int (nI i)), (2, .int (nI z)), (3, .int (nI q))] → W p l e (headSpec w_O_partFor ({ frames := 2, cells := 0, slots := 0, locals := 47 } : Room)).room s m ([.ref (ad 0), .int (nI i), .int (nI z)] : List Value).toArray below meth c s.heap [] 0 0 (MQ below (vp_Si (fun r => r = pfI (pfO w g1 (br (256 * i + z)) z pn 0))) ([.ref (ad 0), .int (nI i), .int (nI z)] : List Value).toArray s 0 0 (fun _ => False)) (F0 m 2 ls []) := by
    intro n2
    induction n2 with
    | zero =>
      intro q f hm
      exact absurd hm (Nat.not_lt_zero _)
    | succ n2 ih2 =>
      intro q f hm hqf hT ls hl
      refine lv_iload_n hx hb d_O_partFor_2 rfl (lv_at hl 3 rfl) ?_
      refine lv_aload_n hx hb d_O_partFor_3 rfl (lv_at hl 0 rfl) ?_
      refine fv_get (ci := 7) (v := .int (nI pn)) (C := R_O) (T := F_O) (N := 36) hx hb hts (by decide +kernel) hown hK hP 0 0 rfl rfl rfl 5 (by decide) (hts (.fieldLink R_O 81 "PartShelvesModel" "parts" "I") (by decide +kernel)) (fun _ h9 => h9) rfl d_O_partFor_4 ?_
      refine nv_icmp_ge (tgt := 104) hx hb d_O_partFor_7 (by decide) (by omega) (by omega) (fun hq => ?_) (fun hq => ?_)
      · obtain rfl : f = 0 := by omega
        refine lv_iconst (v := (-1)) hx hb d_O_partFor_104 (by decide) ?_
        exact W.iret (v := (-1)) hx hb hr (fun t ht hW => ⟨_, rfl, by rw [← hT]; rfl, ht⟩) t_nil d_O_partFor_105
      · obtain ⟨f, rfl⟩ : ∃ g, f = g + 1 := ⟨f - 1, by omega⟩
        have hwq := hw q hq
        refine lv_iload_n hx hb d_O_partFor_10 rfl (lv_at hl 2 rfl) ?_
        refine lv_iload_n hx hb d_O_partFor_11 rfl (lv_at hl 3 rfl) ?_
        refine lv_ishr hx hb d_O_partFor_12 ?_
        refine lv_iconst (v := nI 1) hx hb d_O_partFor_13 (by decide) ?_
        refine lv_iand hx hb d_O_partFor_14 ?_
        refine nv_topi (y := nI (z / 2 ^ q % 2)) (bitI (by omega) (by omega)) ?_
        refine nv_if_ne (tgt := 36) hx hb d_O_partFor_15 (by decide) (by omega) (fun hbit => ?_) (fun hbit => ?_)
        · refine lv_iconst (v := nI 0) hx hb d_O_partFor_36 (by decide) ?_
          refine lv_istore (lv' := [(4, .int (nI 0)), (0, .ref (ad 0)), (1, .int (nI i)), (2, .int (nI z)), (3, .int (nI q))]) hx hb d_O_partFor_37 hl (by decide) rfl (fun ls hl => ?_)
          refine lv_iload hx hb d_O_partFor_39 (lv_at hl 0 rfl) ?_
          refine nv_if_eq (tgt := 98) hx hb d_O_partFor_41 (by decide) (by decide) (fun c1 => ?_) (fun c1 => ?_)
          · refine lv_iinc (v := nI (q + 1)) (lv' := [(3, .int (nI (q + 1))), (4, .int (nI 0)), (0, .ref (ad 0)), (1, .int (nI i)), (2, .int (nI z))]) hx hb d_O_partFor_98 hl (k := 4) rfl (nI_1 q) (by decide) rfl (fun ls hl => ?_)
            refine lv_goto (tgt := 2) hx hb d_O_partFor_101 (by decide) ?_
            exact ih2 (q + 1) f (by omega) (by omega) (by rw [← hT]; exact congrArg pfI (if_neg (fun y => by obtain ⟨y1, v, y2, y3⟩ := y; first | (rw [hwq] at y2; cases y2; exact hc ((pk_lEQ (by have := hcN (od i); have := hgb (z ||| 2 ^ q); omega) (by omega)).mpr y3)) | (rw [hwq] at y2; cases y2) | exact hbit y1)).symm) ls (lv_sub hl [2, 3, 4, 0] rfl)
          · exact absurd c1 (by decide)
        · refine lv_aload_n hx hb d_O_partFor_18 rfl (lv_at hl 0 rfl) ?_
          refine lv_iload_n hx hb d_O_partFor_19 rfl (lv_at hl 3 rfl) ?_
          refine lv_aload_n hx hb d_O_partFor_20 rfl (lv_at hl 0 rfl) ?_
          refine fv_get (ci := 7) (v := .ref (ad 22)) (C := R_O) (T := F_O) (N := 36) hx hb hts (by decide +kernel) hown hK hP 0 0 rfl rfl rfl 34 (by decide) (hts (.fieldLink R_O 75 "PartShelvesModel" "order" "[I") (by decide +kernel)) (fun _ h9 => h9) rfl d_O_partFor_21 ?_
          refine lv_iload_n hx hb d_O_partFor_24 rfl (lv_at hl 1 rfl) ?_
          refine fa_ialdN hx hb hK hP 0 22 0 rfl rfl rfl (by omega) (by decide) d_O_partFor_25 ?_
          refine r_calli (W.runV (As := [.int (nI q), .int (nI (od i))]) (rest := []) ⟨hx, hb, hml, hown, hts⟩ (c_O_isPair l D kC ad td rn pn an jn tn bm fw gp ga bp fc fj rA rC ft kd aG sR sT wh dY pd cN mN sv nd wr tl lt lT lD gv gn od br q (od i) (by omega) (hod _) (han) (hsT) (hdY) (htd) (hrn) (hrA) (haG) (hkd) (hpd) (hcN) (hrC) (hwh)) (cwV 2 hts g_O_partFor_isPair rfl rfl rfl (by decide +kernel) ⟨Nat.le_of_ble_eq_true rfl, Nat.le_of_ble_eq_true rfl⟩) (r_preV (f_recv (ci := 7) (q0 := 0) hK hP 0 rfl rfl rfl) hK hP) rfl rfl hl.1 rfl (lv_room (Nat.le_of_ble_eq_true rfl)) d_O_partFor_26 ⟨Nat.le_of_ble_eq_true rfl, Nat.le_of_ble_eq_true rfl⟩) ?_
          refine lv_if_eq (tgt := 36) hx hb d_O_partFor_29 (by decide) (fun hpr => ?_) (fun hpr => ?_)
          · have hpr := bI_0.mp hpr
            rw [if_neg hpr] at hwq
            refine lv_iconst (v := nI 0) hx hb d_O_partFor_36 (by decide) ?_
            refine lv_istore (lv' := [(4, .int (nI 0)), (0, .ref (ad 0)), (1, .int (nI i)), (2, .int (nI z)), (3, .int (nI q))]) hx hb d_O_partFor_37 hl (by decide) rfl (fun ls hl => ?_)
            refine lv_iload hx hb d_O_partFor_39 (lv_at hl 0 rfl) ?_
            refine nv_if_eq (tgt := 98) hx hb d_O_partFor_41 (by decide) (by decide) (fun c2 => ?_) (fun c2 => ?_)
            · refine lv_iinc (v := nI (q + 1)) (lv' := [(3, .int (nI (q + 1))), (4, .int (nI 0)), (0, .ref (ad 0)), (1, .int (nI i)), (2, .int (nI z))]) hx hb d_O_partFor_98 hl (k := 4) rfl (nI_1 q) (by decide) rfl (fun ls hl => ?_)
              refine lv_goto (tgt := 2) hx hb d_O_partFor_101 (by decide) ?_
              exact ih2 (q + 1) f (by omega) (by omega) (by rw [← hT]; exact congrArg pfI (if_neg (fun y => by obtain ⟨y1, v, y2, y3⟩ := y; first | (rw [hwq] at y2; cases y2; exact hc ((pk_lEQ (by have := hcN (od i); have := hgb (z ||| 2 ^ q); omega) (by omega)).mpr y3)) | (rw [hwq] at y2; cases y2) | exact hbit y1)).symm) ls (lv_sub hl [2, 3, 4, 0] rfl)
            · exact absurd c2 (by decide)
          · have hpr := bI_n0.mp hpr
            rw [if_pos hpr] at hwq
            refine lv_iconst (v := nI 1) hx hb d_O_partFor_32 (by decide) ?_
            refine lv_goto (tgt := 37) hx hb d_O_partFor_33 (by decide) ?_
            refine lv_istore (lv' := [(4, .int (nI 1)), (0, .ref (ad 0)), (1, .int (nI i)), (2, .int (nI z)), (3, .int (nI q))]) hx hb d_O_partFor_37 hl (by decide) rfl (fun ls hl => ?_)
            refine lv_iload hx hb d_O_partFor_39 (lv_at hl 0 rfl) ?_
            refine nv_if_eq (tgt := 98) hx hb d_O_partFor_41 (by decide) (by decide) (fun c3 => ?_) (fun c3 => ?_)
            · exact absurd c3 (by decide)
            · refine lv_aload_n hx hb d_O_partFor_44 rfl (lv_at hl 1 rfl) ?_
              refine fv_get (ci := 7) (v := .ref (ad 11)) (C := R_O) (T := F_O) (N := 36) hx hb hts (by decide +kernel) hown hK hP 0 0 rfl rfl rfl 14 (by decide) (hts (.fieldLink R_O 42 "PartShelvesModel" "cents" "[J") (by decide +kernel)) (fun _ h9 => h9) rfl d_O_partFor_45 ?_
              refine lv_aload_n hx hb d_O_partFor_48 rfl (lv_at hl 1 rfl) ?_
              refine fv_get (ci := 7) (v := .ref (ad 22)) (C := R_O) (T := F_O) (N := 36) hx hb hts (by decide +kernel) hown hK hP 0 0 rfl rfl rfl 34 (by decide) (hts (.fieldLink R_O 75 "PartShelvesModel" "order" "[I") (by decide +kernel)) (fun _ h9 => h9) rfl d_O_partFor_49 ?_
              refine lv_iload_n hx hb d_O_partFor_52 rfl (lv_at hl 2 rfl) ?_
              refine fa_ialdN hx hb hK hP 0 22 0 rfl rfl rfl (by omega) (by decide) d_O_partFor_53 ?_
              refine fa_laldN hx hb hK hP 0 11 1 rfl rfl rfl (hod _) (by decide) d_O_partFor_54 ?_
              refine lv_aload_n hx hb d_O_partFor_55 rfl (lv_at hl 1 rfl) ?_
              refine lv_iload_n hx hb d_O_partFor_56 rfl (lv_at hl 4 rfl) ?_
              refine r_calll (W.runV (As := [.int (nI q)]) (rest := [.long (lN (cN (od i)))]) ⟨hx, hb, hml, hown, hts⟩ (c_O_prOf l D kC ad td rn pn an jn tn bm fw gp ga bp fc fj rA rC ft kd aG sR sT wh dY pd cN mN sv nd wr tl lt lT lD gv gn od br q (by omega) (hrn) (hrA) (haG)) (cwV 1 hts g_O_partFor_priceOf rfl rfl rfl (by decide +kernel) ⟨Nat.le_of_ble_eq_true rfl, Nat.le_of_ble_eq_true rfl⟩) (r_preV (f_recv (ci := 7) (q0 := 0) hK hP 0 rfl rfl rfl) hK hP) rfl rfl hl.1 rfl (lv_room (Nat.le_of_ble_eq_true rfl)) d_O_partFor_57 ⟨Nat.le_of_ble_eq_true rfl, Nat.le_of_ble_eq_true rfl⟩) ?_
              refine nv_lsub hx hb d_O_partFor_60 (hpr.2.2.2) ?_
              refine lv_aload_n hx hb d_O_partFor_61 rfl (lv_at hl 1 rfl) ?_
              refine fv_get (ci := 7) (v := .ref (ad 23)) (C := R_O) (T := F_O) (N := 36) hx hb hts (by decide +kernel) hown hK hP 0 0 rfl rfl rfl 35 (by decide) (hts (.fieldLink R_O 78 "PartShelvesModel" "brings" "[J") (by decide +kernel)) (fun _ h9 => h9) rfl d_O_partFor_62 ?_
              refine lv_sipush (v := nI 256) hx hb d_O_partFor_65 (by decide +kernel) ?_
              refine lv_iload_n hx hb d_O_partFor_68 rfl (lv_at hl 2 rfl) ?_
              refine lv_iconst (v := nI 1) hx hb d_O_partFor_69 (by decide) ?_
              refine nv_iadd hx hb d_O_partFor_70 ?_
              refine nv_imul hx hb d_O_partFor_71 ?_
              refine lv_iload_n hx hb d_O_partFor_72 rfl (lv_at hl 3 rfl) ?_
              refine lv_iconst (v := nI 1) hx hb d_O_partFor_73 (by decide) ?_
              refine lv_iload_n hx hb d_O_partFor_74 rfl (lv_at hl 4 rfl) ?_
              refine lv_ishl hx hb d_O_partFor_75 ?_
              refine nv_topi (y := nI (2 ^ q)) (shl1 q (by omega)) ?_
              refine lv_ior hx hb d_O_partFor_76 ?_
              refine nv_topi (y := nI (z ||| 2 ^ q)) (nx_or _ _) ?_
              refine nv_iadd hx hb d_O_partFor_77 ?_
              refine fa_laldN hx hb hK hP 0 23 1 rfl rfl rfl (by have := or_lt' z hz q (by omega); omega) (by decide) d_O_partFor_78 ?_
              refine nv_topl (y := lN (g1 (z ||| 2 ^ q))) (congrArg lN (hg1 _ (or_lt' z hz q (by omega)))) ?_
              refine nv_ladd hx hb d_O_partFor_79 ?_
              refine lv_aload_n hx hb d_O_partFor_80 rfl (lv_at hl 1 rfl) ?_
              refine fv_get (ci := 7) (v := .ref (ad 23)) (C := R_O) (T := F_O) (N := 36) hx hb hts (by decide +kernel) hown hK hP 0 0 rfl rfl rfl 35 (by decide) (hts (.fieldLink R_O 78 "PartShelvesModel" "brings" "[J") (by decide +kernel)) (fun _ h9 => h9) rfl d_O_partFor_81 ?_
              refine lv_sipush (v := nI 256) hx hb d_O_partFor_84 (by decide +kernel) ?_
              refine lv_iload_n hx hb d_O_partFor_87 rfl (lv_at hl 2 rfl) ?_
              refine nv_imul hx hb d_O_partFor_88 ?_
              refine lv_iload_n hx hb d_O_partFor_89 rfl (lv_at hl 3 rfl) ?_
              refine nv_iadd hx hb d_O_partFor_90 ?_
              refine fa_laldN hx hb hK hP 0 23 1 rfl rfl rfl (by omega) (by decide) d_O_partFor_91 ?_
              refine lc_ne (tgt := 98) hx hb d_O_partFor_92 d_O_partFor_93 (by decide) (fun hc => ?_) (fun hc => ?_)
              · refine lv_iinc (v := nI (q + 1)) (lv' := [(3, .int (nI (q + 1))), (4, .int (nI 1)), (0, .ref (ad 0)), (1, .int (nI i)), (2, .int (nI z))]) hx hb d_O_partFor_98 hl (k := 4) rfl (nI_1 q) (by decide) rfl (fun ls hl => ?_)
                refine lv_goto (tgt := 2) hx hb d_O_partFor_101 (by decide) ?_
                exact ih2 (q + 1) f (by omega) (by omega) (by rw [← hT]; exact congrArg pfI (if_neg (fun y => by obtain ⟨y1, v, y2, y3⟩ := y; first | (rw [hwq] at y2; cases y2; exact hc ((pk_lEQ (by have := hcN (od i); have := hgb (z ||| 2 ^ q); omega) (by omega)).mpr y3)) | (rw [hwq] at y2; cases y2) | exact hbit y1)).symm) ls (lv_sub hl [2, 3, 4, 0] rfl)
              · refine lv_iload_n hx hb d_O_partFor_96 rfl (lv_at hl 4 rfl) ?_
                exact W.iret (v := nI q) hx hb hr (fun t ht hW => ⟨_, rfl, by rw [← hT]; simp only [pfO]; rw [if_pos ⟨hbit, _, hwq, (pk_lEQ (by have := hcN (od i); have := hgb (z ||| 2 ^ q); omega) (by omega)).mp hc⟩]; rfl, ht⟩) t_nil d_O_partFor_97
  exact L2 _ 0 pn (Nat.lt_succ_self _) (Nat.zero_add _) (rfl) ls (lv_sub hl [1, 2, 3, 0] rfl)

