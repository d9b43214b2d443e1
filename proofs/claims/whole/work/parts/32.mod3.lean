theorem sl31 : ∀ n, n < 32 → ((nI n &&& 31).toBitVec.smod 32).toNat = n := by decide +kernel
theorem bitI {f j : Nat} (hf : f < 2 ^ 31) (hj : j < 31) : nI f >>> (nI j &&& 31) &&& nI 1 = nI (f / 2 ^ j % 2) := by
  rw [pk_shrN hf (nI j &&& 31) j (sl31 j (by omega)), nx_and, Nat.and_one_is_mod]
/-- the k-th late tool -/
def lateM (lt : Nat → Int32) (lD : Nat → Nat) (td : Nat) (x : Int32) : Nat → Nat → Nat → Int32
  | 0, _, _ => -1
  | f + 1, t, z => if ¬ lt t = 0 ∧ lD t < td then (if nI z = x then nI t else lateM lt lD td x f (t + 1) (z + 1)) else lateM lt lD td x f (t + 1) z
/-- a part is meant by a recall -/
abbrev rcC (kd sR : Nat → Nat) (k : Nat) (v u : Int64) (i : Nat) : Prop := kd i = k ∧ v ≤ lN (sR i) ∧ lN (sR i) ≤ u
def rcT (kd sR sT : Nat → Nat) (k : Nat) (v u : Int64) : Nat → Nat
  | 0 => 0
  | i + 1 => if rcC kd sR k v u i ∧ sT i = 2 then rcT kd sR sT k v u i + 1 else rcT kd sR sT k v u i
def rcL (kd sR sT wh tl : Nat → Nat) (k : Nat) (v u : Int64) : Nat → Nat → Nat
  | 0 => tl
  | i + 1 => if rcC kd sR k v u i ∧ sT i = 2 then updN (rcL kd sR sT wh tl k v u i) (rcT kd sR sT k v u i) (10 * i + wh i) else rcL kd sR sT wh tl k v u i
def rcS (kd sR sT : Nat → Nat) (k : Nat) (v u : Int64) : Nat → Nat → Nat
  | 0 => sT
  | i + 1 => if rcC kd sR k v u i ∧ ¬ sT i = 2 then updN (rcS kd sR sT k v u i) i 3 else rcS kd sR sT k v u i
theorem rcT_le (kd sR sT : Nat → Nat) (k : Nat) (v u : Int64) : ∀ i, rcT kd sR sT k v u i ≤ i
  | 0 => Nat.le_refl 0
  | i + 1 => by
    have := rcT_le kd sR sT k v u i
    show (if rcC kd sR k v u i ∧ sT i = 2 then rcT kd sR sT k v u i + 1 else rcT kd sR sT k v u i) ≤ i + 1
    split <;> omega
theorem rcS_ge (kd sR sT : Nat → Nat) (k : Nat) (v u : Int64) {j : Nat} : ∀ i, i ≤ j → rcS kd sR sT k v u i j = sT j
  | 0, _ => rfl
  | i + 1, h => by
    show (if rcC kd sR k v u i ∧ ¬ sT i = 2 then updN (rcS kd sR sT k v u i) i 3 else rcS kd sR sT k v u i) j = sT j
    split
    · rw [updN_n _ _ (by omega)]; exact rcS_ge kd sR sT k v u i (by omega)
    · exact rcS_ge kd sR sT k v u i (by omega)
abbrev b_O_isPair : ByteArray := prog_9_method_18_code
def y_O_isPair : MethodName := ⟨"PartShelvesModel", "isPair", "(II)Z"⟩
theorem d_O_isPair_0 : decode b_O_isPair 0 = .ok (.aload_n 0, 1) := by decide +kernel
theorem d_O_isPair_1 : decode b_O_isPair 1 = .ok (.iload_n 1, 1) := by decide +kernel
theorem d_O_isPair_2 : decode b_O_isPair 2 = .ok (.invokevirtual 117, 3) := by decide +kernel
theorem d_O_isPair_5 : decode b_O_isPair 5 = .ok (.ifCond .eq 22, 3) := by decide +kernel
theorem d_O_isPair_8 : decode b_O_isPair 8 = .ok (.aload_n 0, 1) := by decide +kernel
theorem d_O_isPair_9 : decode b_O_isPair 9 = .ok (.iload_n 1, 1) := by decide +kernel
theorem d_O_isPair_10 : decode b_O_isPair 10 = .ok (.invokevirtual 117, 3) := by decide +kernel
theorem d_O_isPair_13 : decode b_O_isPair 13 = .ok (.iconst 1, 1) := by decide +kernel
theorem d_O_isPair_14 : decode b_O_isPair 14 = .ok (.if_icmp .ne 17, 3) := by decide +kernel
theorem d_O_isPair_17 : decode b_O_isPair 17 = .ok (.aload_n 0, 1) := by decide +kernel
theorem d_O_isPair_18 : decode b_O_isPair 18 = .ok (.getfield 33, 3) := by decide +kernel
theorem d_O_isPair_21 : decode b_O_isPair 21 = .ok (.iload_n 1, 1) := by decide +kernel
theorem d_O_isPair_22 : decode b_O_isPair 22 = .ok (.iaload, 1) := by decide +kernel
theorem d_O_isPair_23 : decode b_O_isPair 23 = .ok (.iload_n 2, 1) := by decide +kernel
theorem d_O_isPair_24 : decode b_O_isPair 24 = .ok (.if_icmp .ne 7, 3) := by decide +kernel
theorem d_O_isPair_27 : decode b_O_isPair 27 = .ok (.iconst 1, 1) := by decide +kernel
theorem d_O_isPair_28 : decode b_O_isPair 28 = .ok (.goto 4, 3) := by decide +kernel
theorem d_O_isPair_31 : decode b_O_isPair 31 = .ok (.iconst 0, 1) := by decide +kernel
theorem d_O_isPair_32 : decode b_O_isPair 32 = .ok (.istore_n 3, 1) := by decide +kernel
theorem d_O_isPair_33 : decode b_O_isPair 33 = .ok (.iload_n 3, 1) := by decide +kernel
theorem d_O_isPair_34 : decode b_O_isPair 34 = .ok (.ifCond .eq 54, 3) := by decide +kernel
theorem d_O_isPair_37 : decode b_O_isPair 37 = .ok (.aload_n 0, 1) := by decide +kernel
theorem d_O_isPair_38 : decode b_O_isPair 38 = .ok (.iload_n 2, 1) := by decide +kernel
theorem d_O_isPair_39 : decode b_O_isPair 39 = .ok (.invokevirtual 123, 3) := by decide +kernel
theorem d_O_isPair_42 : decode b_O_isPair 42 = .ok (.ifCond .eq 46, 3) := by decide +kernel
theorem d_O_isPair_45 : decode b_O_isPair 45 = .ok (.aload_n 0, 1) := by decide +kernel
theorem d_O_isPair_46 : decode b_O_isPair 46 = .ok (.getfield 17, 3) := by decide +kernel
theorem d_O_isPair_49 : decode b_O_isPair 49 = .ok (.bipush 6, 2) := by decide +kernel
theorem d_O_isPair_51 : decode b_O_isPair 51 = .ok (.aload_n 0, 1) := by decide +kernel
theorem d_O_isPair_52 : decode b_O_isPair 52 = .ok (.getfield 21, 3) := by decide +kernel
theorem d_O_isPair_55 : decode b_O_isPair 55 = .ok (.iload_n 1, 1) := by decide +kernel
theorem d_O_isPair_56 : decode b_O_isPair 56 = .ok (.iaload, 1) := by decide +kernel
theorem d_O_isPair_57 : decode b_O_isPair 57 = .ok (.imul, 1) := by decide +kernel
theorem d_O_isPair_58 : decode b_O_isPair 58 = .ok (.aload_n 0, 1) := by decide +kernel
theorem d_O_isPair_59 : decode b_O_isPair 59 = .ok (.getfield 39, 3) := by decide +kernel
theorem d_O_isPair_62 : decode b_O_isPair 62 = .ok (.iload_n 2, 1) := by decide +kernel
theorem d_O_isPair_63 : decode b_O_isPair 63 = .ok (.iaload, 1) := by decide +kernel
theorem d_O_isPair_64 : decode b_O_isPair 64 = .ok (.iadd, 1) := by decide +kernel
theorem d_O_isPair_65 : decode b_O_isPair 65 = .ok (.baload, 1) := by decide +kernel
theorem d_O_isPair_66 : decode b_O_isPair 66 = .ok (.ifCond .eq 22, 3) := by decide +kernel
theorem d_O_isPair_69 : decode b_O_isPair 69 = .ok (.aload_n 0, 1) := by decide +kernel
theorem d_O_isPair_70 : decode b_O_isPair 70 = .ok (.getfield 42, 3) := by decide +kernel
theorem d_O_isPair_73 : decode b_O_isPair 73 = .ok (.iload_n 2, 1) := by decide +kernel
theorem d_O_isPair_74 : decode b_O_isPair 74 = .ok (.laload, 1) := by decide +kernel
theorem d_O_isPair_75 : decode b_O_isPair 75 = .ok (.aload_n 0, 1) := by decide +kernel
theorem d_O_isPair_76 : decode b_O_isPair 76 = .ok (.iload_n 1, 1) := by decide +kernel
theorem d_O_isPair_77 : decode b_O_isPair 77 = .ok (.invokevirtual 111, 3) := by decide +kernel
theorem d_O_isPair_80 : decode b_O_isPair 80 = .ok (.lcmp, 1) := by decide +kernel
theorem d_O_isPair_81 : decode b_O_isPair 81 = .ok (.ifCond .lt 7, 3) := by decide +kernel
theorem d_O_isPair_84 : decode b_O_isPair 84 = .ok (.iconst 1, 1) := by decide +kernel
theorem d_O_isPair_85 : decode b_O_isPair 85 = .ok (.goto 4, 3) := by decide +kernel
theorem d_O_isPair_88 : decode b_O_isPair 88 = .ok (.iconst 0, 1) := by decide +kernel
theorem d_O_isPair_89 : decode b_O_isPair 89 = .ok (.ireturn, 1) := by decide +kernel
def w_O_isPair : List Cond := .code y_O_isPair b_O_isPair 4 (some .boolean) :: ([.methodLink "PartShelvesModel" 117 ⟨"PartShelvesModel", "stateOf", "(I)I"⟩, .instanceMethod ⟨"PartShelvesModel", "stateOf", "(I)I"⟩, .selects "PartShelvesModel" ⟨"PartShelvesModel", "stateOf", "(I)I"⟩ ⟨"PartShelvesModel", "stateOf", "(I)I"⟩, .initialized "PartShelvesModel", .code ⟨"PartShelvesModel", "stateOf", "(I)I"⟩ prog_9_method_14_code 2 (some .int), .fieldLink "PartShelvesModel" 30 "PartShelvesModel" "states" "[I", .fieldLink "PartShelvesModel" 36 "PartShelvesModel" "days" "[I", .fieldLink "PartShelvesModel" 88 "PartShelvesModel" "today" "I", .fieldLink "PartShelvesModel" 33 "PartShelvesModel" "whose" "[I", .methodLink "PartShelvesModel" 123 ⟨"PartShelvesModel", "isOpen", "(I)Z"⟩, .instanceMethod ⟨"PartShelvesModel", "isOpen", "(I)Z"⟩, .selects "PartShelvesModel" ⟨"PartShelvesModel", "isOpen", "(I)Z"⟩ ⟨"PartShelvesModel", "isOpen", "(I)Z"⟩, .code ⟨"PartShelvesModel", "isOpen", "(I)Z"⟩ prog_9_method_7_code 2 (some .boolean), .fieldLink "PartShelvesModel" 85 "PartShelvesModel" "asks" "I", .fieldLink "PartShelvesModel" 48 "PartShelvesModel" "served" "[Z", .fieldLink "PartShelvesModel" 17 "PartShelvesModel" "fits" "[Z", .fieldLink "PartShelvesModel" 21 "PartShelvesModel" "kinds" "[I", .fieldLink "PartShelvesModel" 39 "PartShelvesModel" "products" "[I", .fieldLink "PartShelvesModel" 42 "PartShelvesModel" "cents" "[J", .methodLink "PartShelvesModel" 111 ⟨"PartShelvesModel", "priceOf", "(I)J"⟩, .instanceMethod ⟨"PartShelvesModel", "priceOf", "(I)J"⟩, .selects "PartShelvesModel" ⟨"PartShelvesModel", "priceOf", "(I)J"⟩ ⟨"PartShelvesModel", "priceOf", "(I)J"⟩, .code ⟨"PartShelvesModel", "priceOf", "(I)J"⟩ prog_9_method_12_code 5 (some .long), .fieldLink "PartShelvesModel" 97 "PartShelvesModel" "rows" "I", .fieldLink "PartShelvesModel" 7 "PartShelvesModel" "rowAges" "[I", .fieldLink "PartShelvesModel" 24 "PartShelvesModel" "ages" "[I", .fieldLink "PartShelvesModel" 13 "PartShelvesModel" "rowCents" "[J"] ++ u_ws R_O F_O 36)
set_option maxRecDepth 20000 in
theorem g_O_isPair_stateOf : GoodIn w_O_isPair (wsV R_O 117 R_O y_O_stateOf w_O_stateOf) := goodIn_p _ [5] rfl (by decide +kernel)
set_option maxRecDepth 20000 in
theorem g_O_isPair_isOpen : GoodIn w_O_isPair (wsV R_O 123 R_O y_O_isOpen w_O_isOpen) := goodIn_p _ [13] rfl (by decide +kernel)
set_option maxRecDepth 20000 in
theorem g_O_isPair_priceOf : GoodIn w_O_isPair (wsV R_O 111 R_O y_O_priceOf w_O_priceOf) := goodIn_p _ [23] rfl (by decide +kernel)
set_option maxHeartbeats 4000000 in
set_option maxRecDepth 100000 in
theorem c_O_isPair (l : Launch) (D : va_G) (kC : Nat → ClassId) (ad : Nat → Nat) (td : Nat) (rn : Nat) (pn : Nat) (an : Nat) (jn : Nat) (tn : Nat) (bm : Int32) (fw : Int64) (gp : Nat) (ga : Nat) (bp : Int32) (fc : Int64) (fj : Nat) (rA : Nat → Nat) (rC : Nat → Nat) (ft : Nat → Int32) (kd : Nat → Nat) (aG : Nat → Nat) (sR : Nat → Nat) (sT : Nat → Nat) (wh : Nat → Nat) (dY : Nat → Nat) (pd : Nat → Nat) (cN : Nat → Nat) (mN : Nat → Nat) (sv : Nat → Int32) (nd : Nat → Nat) (wr : Nat → Nat) (tl : Nat → Nat) (lt : Nat → Int32) (lT : Nat → Nat) (lD : Nat → Nat) (gv : Nat → Int32) (gn : Nat → Int64) (od : Nat → Nat) (br : Nat → Nat) (q : Nat) (k : Nat) (hq : q < 8) (hk : k < 8) (han : an ≤ 8) (hsT : ∀ j, sT j ≤ 3) (hdY : ∀ j, dY j ≤ 100000) (htd : td ≤ 100000) (hrn : rn ≤ 6) (hrA : ∀ j, rA j ≤ 1000) (haG : ∀ j, aG j ≤ 1000) (hkd : ∀ j, kd j < 6) (hpd : ∀ j, pd j < 6) (hcN : ∀ j, cN j ≤ 1000000) (hrC : ∀ j, rC j ≤ 100000) (hwh : ∀ j, wh j < 10) : Met l y_O_isPair w_O_isPair ({ frames := 1, cells := 0, slots := 0, locals := 24 } : Room) (gPr cls D (tyL kC) [.ref (ad 0), .int (nI q), .int (nI k)] (fl [(wO kC ad td rn pn an jn tn bm fw gp ga bp fc fj rA rC ft kd aG sR sT wh dY pd cN mN sv nd wr tl lt lT lD gv gn od br)])) (vp_Si (fun r => r = bI (prsO td rn an rA rC ft kd aG sT wh dY pd cN sv q k))) 0 0 (fun _ => False) := by
  refine Met.ofW (cc := b_O_isPair) (maxL := 4) (ret := (some .boolean)) (by decide) rfl ?_
  intro p e s m args below meth c s₁ B hml hv
  obtain ⟨rfl, hP, hK⟩ := hv
  have hx := B.exec
  have hb := B.bytes
  have hr := B.returns
  have hts := atoms_spec (ws := w_O_isPair) B.pre
  have hown : s.vm.findClass R_O = some m.cls := findClass_of_methodNamed B.named
  have hlocks := B.notSynchronized
  have hl := lv_entry ([.ref (ad 0), .int (nI q), .int (nI k)]) (n := 4) (Nat.le_of_ble_eq_true rfl)
  rw [lg_entry_eq]
  generalize (lg_sl ([.ref (ad 0), .int (nI q), .int (nI k)]) ++ List.replicate (4 - (lg_sl ([.ref (ad 0), .int (nI q), .int (nI k)])).length) Slot.unset).toArray = ls at hl ⊢
  have hl : lv_has ls 4 [(0, .ref (ad 0)), (1, .int (nI q)), (2, .int (nI k))] := hl
  refine lv_aload_n hx hb d_O_isPair_0 rfl (lv_at hl 0 rfl) ?_
  refine lv_iload_n hx hb d_O_isPair_1 rfl (lv_at hl 1 rfl) ?_
  refine r_calli (W.runV (As := [.int (nI q)]) (rest := []) ⟨hx, hb, hml, hown, hts⟩ (c_O_stOf l D kC ad td rn pn an jn tn bm fw gp ga bp fc fj rA rC ft kd aG sR sT wh dY pd cN mN sv nd wr tl lt lT lD gv gn od br q (hq) (hsT) (hdY) (htd)) (cwV 1 hts g_O_isPair_stateOf rfl rfl rfl (by decide +kernel) ⟨Nat.le_of_ble_eq_true rfl, Nat.le_of_ble_eq_true rfl⟩) (r_preV (f_recv (ci := 7) (q0 := 0) hK hP 0 rfl rfl rfl) hK hP) rfl rfl hl.1 rfl (lv_room (Nat.le_of_ble_eq_true rfl)) d_O_isPair_2 ⟨Nat.le_of_ble_eq_true rfl, Nat.le_of_ble_eq_true rfl⟩) ?_
  refine nv_if_eq (tgt := 27) hx hb d_O_isPair_5 (by decide) (Nat.lt_of_le_of_lt (stOn_le (hsT _)) (by decide)) (fun h1 => ?_) (fun h1 => ?_)
  · refine lv_iconst (v := nI 1) hx hb d_O_isPair_27 (by decide) ?_
    refine lv_goto (tgt := 32) hx hb d_O_isPair_28 (by decide) ?_
    refine lv_istore_n (lv' := [(3, .int (nI 1)), (0, .ref (ad 0)), (1, .int (nI q)), (2, .int (nI k))]) hx hb d_O_isPair_32 rfl hl (by decide) rfl (fun ls hl => ?_)
    refine lv_iload_n hx hb d_O_isPair_33 rfl (lv_at hl 0 rfl) ?_
    refine nv_if_eq (tgt := 88) hx hb d_O_isPair_34 (by decide) (by decide) (fun c1 => ?_) (fun c1 => ?_)
    · exact absurd c1 (by decide)
    · refine lv_aload_n hx hb d_O_isPair_37 rfl (lv_at hl 1 rfl) ?_
      refine lv_iload_n hx hb d_O_isPair_38 rfl (lv_at hl 3 rfl) ?_
      refine r_calli (W.runV (As := [.int (nI k)]) (rest := []) ⟨hx, hb, hml, hown, hts⟩ (c_O_isOpen l D kC ad td rn pn an jn tn bm fw gp ga bp fc fj rA rC ft kd aG sR sT wh dY pd cN mN sv nd wr tl lt lT lD gv gn od br (nI k) (han)) (cwV 1 hts g_O_isPair_isOpen rfl rfl rfl (by decide +kernel) ⟨Nat.le_of_ble_eq_true rfl, Nat.le_of_ble_eq_true rfl⟩) (r_preV (f_recv (ci := 7) (q0 := 0) hK hP 0 rfl rfl rfl) hK hP) rfl rfl hl.1 rfl (lv_room (Nat.le_of_ble_eq_true rfl)) d_O_isPair_39 ⟨Nat.le_of_ble_eq_true rfl, Nat.le_of_ble_eq_true rfl⟩) ?_
      refine lv_if_eq (tgt := 88) hx hb d_O_isPair_42 (by decide) (fun h4 => ?_) (fun h4 => ?_)
      · refine lv_iconst (v := nI 0) hx hb d_O_isPair_88 (by decide) ?_
        exact W.zret (v := nI 0) hx hb hr (nar_b (by first | exact Or.inl rfl | exact Or.inr rfl | exact bI_01)) (fun t ht hW => ⟨_, rfl, (bI_f (fun q => by first | exact absurd ((lN_lt (by have := hcN k; omega) (Nat.lt_of_le_of_lt (prM_le hrC _) (by decide))).mp h6) (Nat.not_lt.mpr q.2.2.2) | exact q.2.2.1 h5 | exact bI_0.mp h4 ((opn_nI (by omega)).mpr q.2.1) | exact h3 (q.1.elim (fun z => absurd z h1) (fun z => z.2)) | exact h2 (q.1.elim (fun z => absurd z h1) (fun z => z.1)))).symm, ht⟩) t_nil d_O_isPair_89
      · refine lv_aload_n hx hb d_O_isPair_45 rfl (lv_at hl 1 rfl) ?_
        refine fv_get (ci := 7) (v := .ref (ad 3)) (C := R_O) (T := F_O) (N := 36) hx hb hts (by decide +kernel) hown hK hP 0 0 rfl rfl rfl 4 (by decide) (hts (.fieldLink R_O 17 "PartShelvesModel" "fits" "[Z") (by decide +kernel)) (fun _ h9 => h9) rfl d_O_isPair_46 ?_
        refine lv_bipush (v := nI 6) hx hb d_O_isPair_49 (by decide +kernel) ?_
        refine lv_aload_n hx hb d_O_isPair_51 rfl (lv_at hl 1 rfl) ?_
        refine fv_get (ci := 7) (v := .ref (ad 4)) (C := R_O) (T := F_O) (N := 36) hx hb hts (by decide +kernel) hown hK hP 0 0 rfl rfl rfl 6 (by decide) (hts (.fieldLink R_O 21 "PartShelvesModel" "kinds" "[I") (by decide +kernel)) (fun _ h9 => h9) rfl d_O_isPair_52 ?_
        refine lv_iload_n hx hb d_O_isPair_55 rfl (lv_at hl 2 rfl) ?_
        refine fa_ialdN hx hb hK hP 0 4 0 rfl rfl rfl (by omega) (by decide) d_O_isPair_56 ?_
        refine nv_imul hx hb d_O_isPair_57 ?_
        refine lv_aload_n hx hb d_O_isPair_58 rfl (lv_at hl 1 rfl) ?_
        refine fv_get (ci := 7) (v := .ref (ad 10)) (C := R_O) (T := F_O) (N := 36) hx hb hts (by decide +kernel) hown hK hP 0 0 rfl rfl rfl 13 (by decide) (hts (.fieldLink R_O 39 "PartShelvesModel" "products" "[I") (by decide +kernel)) (fun _ h9 => h9) rfl d_O_isPair_59 ?_
        refine lv_iload_n hx hb d_O_isPair_62 rfl (lv_at hl 3 rfl) ?_
        refine fa_ialdN hx hb hK hP 0 10 0 rfl rfl rfl (by omega) (by decide) d_O_isPair_63 ?_
        refine nv_iadd hx hb d_O_isPair_64 ?_
        refine fa_zald hx hb hK hP 0 3 2 rfl rfl rfl (by have := hkd q; have := hpd k; omega) (by decide) d_O_isPair_65 ?_
        refine lv_if_eq (tgt := 88) hx hb d_O_isPair_66 (by decide) (fun h5 => ?_) (fun h5 => ?_)
        · refine lv_iconst (v := nI 0) hx hb d_O_isPair_88 (by decide) ?_
          exact W.zret (v := nI 0) hx hb hr (nar_b (by first | exact Or.inl rfl | exact Or.inr rfl | exact bI_01)) (fun t ht hW => ⟨_, rfl, (bI_f (fun q => by first | exact absurd ((lN_lt (by have := hcN k; omega) (Nat.lt_of_le_of_lt (prM_le hrC _) (by decide))).mp h6) (Nat.not_lt.mpr q.2.2.2) | exact q.2.2.1 h5 | exact bI_0.mp h4 ((opn_nI (by omega)).mpr q.2.1) | exact h3 (q.1.elim (fun z => absurd z h1) (fun z => z.2)) | exact h2 (q.1.elim (fun z => absurd z h1) (fun z => z.1)))).symm, ht⟩) t_nil d_O_isPair_89
        · refine lv_aload_n hx hb d_O_isPair_69 rfl (lv_at hl 1 rfl) ?_
          refine fv_get (ci := 7) (v := .ref (ad 11)) (C := R_O) (T := F_O) (N := 36) hx hb hts (by decide +kernel) hown hK hP 0 0 rfl rfl rfl 14 (by decide) (hts (.fieldLink R_O 42 "PartShelvesModel" "cents" "[J") (by decide +kernel)) (fun _ h9 => h9) rfl d_O_isPair_70 ?_
          refine lv_iload_n hx hb d_O_isPair_73 rfl (lv_at hl 3 rfl) ?_
          refine fa_laldN hx hb hK hP 0 11 1 rfl rfl rfl (by omega) (by decide) d_O_isPair_74 ?_
          refine lv_aload_n hx hb d_O_isPair_75 rfl (lv_at hl 1 rfl) ?_
          refine lv_iload_n hx hb d_O_isPair_76 rfl (lv_at hl 2 rfl) ?_
          refine r_calll (W.runV (As := [.int (nI q)]) (rest := [.long (lN (cN k))]) ⟨hx, hb, hml, hown, hts⟩ (c_O_prOf l D kC ad td rn pn an jn tn bm fw gp ga bp fc fj rA rC ft kd aG sR sT wh dY pd cN mN sv nd wr tl lt lT lD gv gn od br q (hq) (hrn) (hrA) (haG)) (cwV 1 hts g_O_isPair_priceOf rfl rfl rfl (by decide +kernel) ⟨Nat.le_of_ble_eq_true rfl, Nat.le_of_ble_eq_true rfl⟩) (r_preV (f_recv (ci := 7) (q0 := 0) hK hP 0 rfl rfl rfl) hK hP) rfl rfl hl.1 rfl (lv_room (Nat.le_of_ble_eq_true rfl)) d_O_isPair_77 ⟨Nat.le_of_ble_eq_true rfl, Nat.le_of_ble_eq_true rfl⟩) ?_
          refine lc_lt (tgt := 88) hx hb d_O_isPair_80 d_O_isPair_81 (by decide) (fun h6 => ?_) (fun h6 => ?_)
          · refine lv_iconst (v := nI 0) hx hb d_O_isPair_88 (by decide) ?_
            exact W.zret (v := nI 0) hx hb hr (nar_b (by first | exact Or.inl rfl | exact Or.inr rfl | exact bI_01)) (fun t ht hW => ⟨_, rfl, (bI_f (fun q => by first | exact absurd ((lN_lt (by have := hcN k; omega) (Nat.lt_of_le_of_lt (prM_le hrC _) (by decide))).mp h6) (Nat.not_lt.mpr q.2.2.2) | exact q.2.2.1 h5 | exact bI_0.mp h4 ((opn_nI (by omega)).mpr q.2.1) | exact h3 (q.1.elim (fun z => absurd z h1) (fun z => z.2)) | exact h2 (q.1.elim (fun z => absurd z h1) (fun z => z.1)))).symm, ht⟩) t_nil d_O_isPair_89
          · refine lv_iconst (v := nI 1) hx hb d_O_isPair_84 (by decide) ?_
            refine lv_goto (tgt := 89) hx hb d_O_isPair_85 (by decide) ?_
            exact W.zret (v := nI 1) hx hb hr (nar_b (by first | exact Or.inl rfl | exact Or.inr rfl | exact bI_01)) (fun t ht hW => ⟨_, rfl, (bI_t ⟨by first | exact Or.inl h1 | exact Or.inr ⟨h2, h3⟩, (opn_nI (by omega)).mp (bI_n0.mp h4), h5, Nat.le_of_not_lt (fun z => h6 ((lN_lt (by have := hcN k; omega) (Nat.lt_of_le_of_lt (prM_le hrC _) (by decide))).mpr z))⟩).symm, ht⟩) t_nil d_O_isPair_89
  · refine lv_aload_n hx hb d_O_isPair_8 rfl (lv_at hl 0 rfl) ?_
    refine lv_iload_n hx hb d_O_isPair_9 rfl (lv_at hl 1 rfl) ?_
    refine r_calli (W.runV (As := [.int (nI q)]) (rest := []) ⟨hx, hb, hml, hown, hts⟩ (c_O_stOf l D kC ad td rn pn an jn tn bm fw gp ga bp fc fj rA rC ft kd aG sR sT wh dY pd cN mN sv nd wr tl lt lT lD gv gn od br q (hq) (hsT) (hdY) (htd)) (cwV 1 hts g_O_isPair_stateOf rfl rfl rfl (by decide +kernel) ⟨Nat.le_of_ble_eq_true rfl, Nat.le_of_ble_eq_true rfl⟩) (r_preV (f_recv (ci := 7) (q0 := 0) hK hP 0 rfl rfl rfl) hK hP) rfl rfl hl.1 rfl (lv_room (Nat.le_of_ble_eq_true rfl)) d_O_isPair_10 ⟨Nat.le_of_ble_eq_true rfl, Nat.le_of_ble_eq_true rfl⟩) ?_
    refine lv_iconst (v := nI 1) hx hb d_O_isPair_13 (by decide) ?_
    refine nv_icmp_ne (tgt := 31) hx hb d_O_isPair_14 (by decide) (Nat.lt_of_le_of_lt (stOn_le (hsT _)) (by decide)) (by omega) (fun h2 => ?_) (fun h2 => ?_)
    · refine lv_iconst (v := nI 0) hx hb d_O_isPair_31 (by decide) ?_
      refine lv_istore_n (lv' := [(3, .int (nI 0)), (0, .ref (ad 0)), (1, .int (nI q)), (2, .int (nI k))]) hx hb d_O_isPair_32 rfl hl (by decide) rfl (fun ls hl => ?_)
      refine lv_iload_n hx hb d_O_isPair_33 rfl (lv_at hl 0 rfl) ?_
      refine nv_if_eq (tgt := 88) hx hb d_O_isPair_34 (by decide) (by decide) (fun c2 => ?_) (fun c2 => ?_)
      · refine lv_iconst (v := nI 0) hx hb d_O_isPair_88 (by decide) ?_
        exact W.zret (v := nI 0) hx hb hr (nar_b (by first | exact Or.inl rfl | exact Or.inr rfl | exact bI_01)) (fun t ht hW => ⟨_, rfl, (bI_f (fun q => by first | exact absurd ((lN_lt (by have := hcN k; omega) (Nat.lt_of_le_of_lt (prM_le hrC _) (by decide))).mp h6) (Nat.not_lt.mpr q.2.2.2) | exact q.2.2.1 h5 | exact bI_0.mp h4 ((opn_nI (by omega)).mpr q.2.1) | exact h3 (q.1.elim (fun z => absurd z h1) (fun z => z.2)) | exact h2 (q.1.elim (fun z => absurd z h1) (fun z => z.1)))).symm, ht⟩) t_nil d_O_isPair_89
      · exact absurd c2 (by decide)
    · refine lv_aload_n hx hb d_O_isPair_17 rfl (lv_at hl 0 rfl) ?_
      refine fv_get (ci := 7) (v := .ref (ad 8)) (C := R_O) (T := F_O) (N := 36) hx hb hts (by decide +kernel) hown hK hP 0 0 rfl rfl rfl 10 (by decide) (hts (.fieldLink R_O 33 "PartShelvesModel" "whose" "[I") (by decide +kernel)) (fun _ h9 => h9) rfl d_O_isPair_18 ?_
      refine lv_iload_n hx hb d_O_isPair_21 rfl (lv_at hl 1 rfl) ?_
      refine fa_ialdN hx hb hK hP 0 8 0 rfl rfl rfl (by omega) (by decide) d_O_isPair_22 ?_
      refine lv_iload_n hx hb d_O_isPair_23 rfl (lv_at hl 2 rfl) ?_
      refine nv_icmp_ne (tgt := 31) hx hb d_O_isPair_24 (by decide) (by have := hwh q; omega) (by omega) (fun h3 => ?_) (fun h3 => ?_)
      · refine lv_iconst (v := nI 0) hx hb d_O_isPair_31 (by decide) ?_
        refine lv_istore_n (lv' := [(3, .int (nI 0)), (0, .ref (ad 0)), (1, .int (nI q)), (2, .int (nI k))]) hx hb d_O_isPair_32 rfl hl (by decide) rfl (fun ls hl => ?_)
        refine lv_iload_n hx hb d_O_isPair_33 rfl (lv_at hl 0 rfl) ?_
        refine nv_if_eq (tgt := 88) hx hb d_O_isPair_34 (by decide) (by decide) (fun c3 => ?_) (fun c3 => ?_)
        · refine lv_iconst (v := nI 0) hx hb d_O_isPair_88 (by decide) ?_
          exact W.zret (v := nI 0) hx hb hr (nar_b (by first | exact Or.inl rfl | exact Or.inr rfl | exact bI_01)) (fun t ht hW => ⟨_, rfl, (bI_f (fun q => by first | exact absurd ((lN_lt (by have := hcN k; omega) (Nat.lt_of_le_of_lt (prM_le hrC _) (by decide))).mp h6) (Nat.not_lt.mpr q.2.2.2) | exact q.2.2.1 h5 | exact bI_0.mp h4 ((opn_nI (by omega)).mpr q.2.1) | exact h3 (q.1.elim (fun z => absurd z h1) (fun z => z.2)) | exact h2 (q.1.elim (fun z => absurd z h1) (fun z => z.1)))).symm, ht⟩) t_nil d_O_isPair_89
        · exact absurd c3 (by decide)
      · refine lv_iconst (v := nI 1) hx hb d_O_isPair_27 (by decide) ?_
        refine lv_goto (tgt := 32) hx hb d_O_isPair_28 (by decide) ?_
        refine lv_istore_n (lv' := [(3, .int (nI 1)), (0, .ref (ad 0)), (1, .int (nI q)), (2, .int (nI k))]) hx hb d_O_isPair_32 rfl hl (by decide) rfl (fun ls hl => ?_)
        refine lv_iload_n hx hb d_O_isPair_33 rfl (lv_at hl 0 rfl) ?_
        refine nv_if_eq (tgt := 88) hx hb d_O_isPair_34 (by decide) (by decide) (fun c4 => ?_) (fun c4 => ?_)
        · exact absurd c4 (by decide)
        · refine lv_aload_n hx hb d_O_isPair_37 rfl (lv_at hl 1 rfl) ?_
          refine lv_iload_n hx hb d_O_isPair_38 rfl (lv_at hl 3 rfl) ?_
          refine r_calli (W.runV (As := [.int (nI k)]) (rest := []) ⟨hx, hb, hml, hown, hts⟩ (c_O_isOpen l D kC ad td rn pn an jn tn bm fw gp ga bp fc fj rA rC ft kd aG sR sT wh dY pd cN mN sv nd wr tl lt lT lD gv gn od br (nI k) (han)) (cwV 1 hts g_O_isPair_isOpen rfl rfl rfl (by decide +kernel) ⟨Nat.le_of_ble_eq_true rfl, Nat.le_of_ble_eq_true rfl⟩) (r_preV (f_recv (ci := 7) (q0 := 0) hK hP 0 rfl rfl rfl) hK hP) rfl rfl hl.1 rfl (lv_room (Nat.le_of_ble_eq_true rfl)) d_O_isPair_39 ⟨Nat.le_of_ble_eq_true rfl, Nat.le_of_ble_eq_true rfl⟩) ?_
          refine lv_if_eq (tgt := 88) hx hb d_O_isPair_42 (by decide) (fun h4 => ?_) (fun h4 => ?_)
          · refine lv_iconst (v := nI 0) hx hb d_O_isPair_88 (by decide) ?_
            exact W.zret (v := nI 0) hx hb hr (nar_b (by first | exact Or.inl rfl | exact Or.inr rfl | exact bI_01)) (fun t ht hW => ⟨_, rfl, (bI_f (fun q => by first | exact absurd ((lN_lt (by have := hcN k; omega) (Nat.lt_of_le_of_lt (prM_le hrC _) (by decide))).mp h6) (Nat.not_lt.mpr q.2.2.2) | exact q.2.2.1 h5 | exact bI_0.mp h4 ((opn_nI (by omega)).mpr q.2.1) | exact h3 (q.1.elim (fun z => absurd z h1) (fun z => z.2)) | exact h2 (q.1.elim (fun z => absurd z h1) (fun z => z.1)))).symm, ht⟩) t_nil d_O_isPair_89
          · refine lv_aload_n hx hb d_O_isPair_45 rfl (lv_at hl 1 rfl) ?_
            refine fv_get (ci := 7) (v := .ref (ad 3)) (C := R_O) (T := F_O) (N := 36) hx hb hts (by decide +kernel) hown hK hP 0 0 rfl rfl rfl 4 (by decide) (hts (.fieldLink R_O 17 "PartShelvesModel" "fits" "[Z") (by decide +kernel)) (fun _ h9 => h9) rfl d_O_isPair_46 ?_
            refine lv_bipush (v := nI 6) hx hb d_O_isPair_49 (by decide +kernel) ?_
            refine lv_aload_n hx hb d_O_isPair_51 rfl (lv_at hl 1 rfl) ?_
            refine fv_get (ci := 7) (v := .ref (ad 4)) (C := R_O) (T := F_O) (N := 36) hx hb hts (by decide +kernel) hown hK hP 0 0 rfl rfl rfl 6 (by decide) (hts (.fieldLink R_O 21 "PartShelvesModel" "kinds" "[I") (by decide +kernel)) (fun _ h9 => h9) rfl d_O_isPair_52 ?_
            refine lv_iload_n hx hb d_O_isPair_55 rfl (lv_at hl 2 rfl) ?_
            refine fa_ialdN hx hb hK hP 0 4 0 rfl rfl rfl (by omega) (by decide) d_O_isPair_56 ?_
            refine nv_imul hx hb d_O_isPair_57 ?_
            refine lv_aload_n hx hb d_O_isPair_58 rfl (lv_at hl 1 rfl) ?_
            refine fv_get (ci := 7) (v := .ref (ad 10)) (C := R_O) (T := F_O) (N := 36) hx hb hts (by decide +kernel) hown hK hP 0 0 rfl rfl rfl 13 (by decide) (hts (.fieldLink R_O 39 "PartShelvesModel" "products" "[I") (by decide +kernel)) (fun _ h9 => h9) rfl d_O_isPair_59 ?_
            refine lv_iload_n hx hb d_O_isPair_62 rfl (lv_at hl 3 rfl) ?_
            refine fa_ialdN hx hb hK hP 0 10 0 rfl rfl rfl (by omega) (by decide) d_O_isPair_63 ?_
            refine nv_iadd hx hb d_O_isPair_64 ?_
            refine fa_zald hx hb hK hP 0 3 2 rfl rfl rfl (by have := hkd q; have := hpd k; omega) (by decide) d_O_isPair_65 ?_
            refine lv_if_eq (tgt := 88) hx hb d_O_isPair_66 (by decide) (fun h5 => ?_) (fun h5 => ?_)
            · refine lv_iconst (v := nI 0) hx hb d_O_isPair_88 (by decide) ?_
              exact W.zret (v := nI 0) hx hb hr (nar_b (by first | exact Or.inl rfl | exact Or.inr rfl | exact bI_01)) (fun t ht hW => ⟨_, rfl, (bI_f (fun q => by first | exact absurd ((lN_lt (by have := hcN k; omega) (Nat.lt_of_le_of_lt (prM_le hrC _) (by decide))).mp h6) (Nat.not_lt.mpr q.2.2.2) | exact q.2.2.1 h5 | exact bI_0.mp h4 ((opn_nI (by omega)).mpr q.2.1) | exact h3 (q.1.elim (fun z => absurd z h1) (fun z => z.2)) | exact h2 (q.1.elim (fun z => absurd z h1) (fun z => z.1)))).symm, ht⟩) t_nil d_O_isPair_89
            · refine lv_aload_n hx hb d_O_isPair_69 rfl (lv_at hl 1 rfl) ?_
              refine fv_get (ci := 7) (v := .ref (ad 11)) (C := R_O) (T := F_O) (N := 36) hx hb hts (by decide +kernel) hown hK hP 0 0 rfl rfl rfl 14 (by decide) (hts (.fieldLink R_O 42 "PartShelvesModel" "cents" "[J") (by decide +kernel)) (fun _ h9 => h9) rfl d_O_isPair_70 ?_
              refine lv_iload_n hx hb d_O_isPair_73 rfl (lv_at hl 3 rfl) ?_
              refine fa_laldN hx hb hK hP 0 11 1 rfl rfl rfl (by omega) (by decide) d_O_isPair_74 ?_
              refine lv_aload_n hx hb d_O_isPair_75 rfl (lv_at hl 1 rfl) ?_
              refine lv_iload_n hx hb d_O_isPair_76 rfl (lv_at hl 2 rfl) ?_
              refine r_calll (W.runV (As := [.int (nI q)]) (rest := [.long (lN (cN k))]) ⟨hx, hb, hml, hown, hts⟩ (c_O_prOf l D kC ad td rn pn an jn tn bm fw gp ga bp fc fj rA rC ft kd aG sR sT wh dY pd cN mN sv nd wr tl lt lT lD gv gn od br q (hq) (hrn) (hrA) (haG)) (cwV 1 hts g_O_isPair_priceOf rfl rfl rfl (by decide +kernel) ⟨Nat.le_of_ble_eq_true rfl, Nat.le_of_ble_eq_true rfl⟩) (r_preV (f_recv (ci := 7) (q0 := 0) hK hP 0 rfl rfl rfl) hK hP) rfl rfl hl.1 rfl (lv_room (Nat.le_of_ble_eq_true rfl)) d_O_isPair_77 ⟨Nat.le_of_ble_eq_true rfl, Nat.le_of_ble_eq_true rfl⟩) ?_
              refine lc_lt (tgt := 88) hx hb d_O_isPair_80 d_O_isPair_81 (by decide) (fun h6 => ?_) (fun h6 => ?_)
              · refine lv_iconst (v := nI 0) hx hb d_O_isPair_88 (by decide) ?_
                exact W.zret (v := nI 0) hx hb hr (nar_b (by first | exact Or.inl rfl | exact Or.inr rfl | exact bI_01)) (fun t ht hW => ⟨_, rfl, (bI_f (fun q => by first | exact absurd ((lN_lt (by have := hcN k; omega) (Nat.lt_of_le_of_lt (prM_le hrC _) (by decide))).mp h6) (Nat.not_lt.mpr q.2.2.2) | exact q.2.2.1 h5 | exact bI_0.mp h4 ((opn_nI (by omega)).mpr q.2.1) | exact h3 (q.1.elim (fun z => absurd z h1) (fun z => z.2)) | exact h2 (q.1.elim (fun z => absurd z h1) (fun z => z.1)))).symm, ht⟩) t_nil d_O_isPair_89
              · refine lv_iconst (v := nI 1) hx hb d_O_isPair_84 (by decide) ?_
                refine lv_goto (tgt := 89) hx hb d_O_isPair_85 (by decide) ?_
                exact W.zret (v := nI 1) hx hb hr (nar_b (by first | exact Or.inl rfl | exact Or.inr rfl | exact bI_01)) (fun t ht hW => ⟨_, rfl, (bI_t ⟨by first | exact Or.inl h1 | exact Or.inr ⟨h2, h3⟩, (opn_nI (by omega)).mp (bI_n0.mp h4), h5, Nat.le_of_not_lt (fun z => h6 ((lN_lt (by have := hcN k; omega) (Nat.lt_of_le_of_lt (prM_le hrC _) (by decide))).mpr z))⟩).symm, ht⟩) t_nil d_O_isPair_89

abbrev b_O_hold : ByteArray := prog_9_method_17_code
def y_O_hold : MethodName := ⟨"PartShelvesModel", "hold", "(III)Z"⟩
theorem d_O_hold_0 : decode b_O_hold 0 = .ok (.aload_n 0, 1) := by decide +kernel
theorem d_O_hold_1 : decode b_O_hold 1 = .ok (.iload_n 1, 1) := by decide +kernel
theorem d_O_hold_2 : decode b_O_hold 2 = .ok (.invokevirtual 108, 3) := by decide +kernel
theorem d_O_hold_5 : decode b_O_hold 5 = .ok (.ifCond .eq 35, 3) := by decide +kernel
theorem d_O_hold_8 : decode b_O_hold 8 = .ok (.aload_n 0, 1) := by decide +kernel
theorem d_O_hold_9 : decode b_O_hold 9 = .ok (.iload_n 1, 1) := by decide +kernel
theorem d_O_hold_10 : decode b_O_hold 10 = .ok (.invokevirtual 117, 3) := by decide +kernel
theorem d_O_hold_13 : decode b_O_hold 13 = .ok (.ifCond .ne 27, 3) := by decide +kernel
theorem d_O_hold_16 : decode b_O_hold 16 = .ok (.aload_n 0, 1) := by decide +kernel
theorem d_O_hold_17 : decode b_O_hold 17 = .ok (.iload_n 2, 1) := by decide +kernel
theorem d_O_hold_18 : decode b_O_hold 18 = .ok (.invokevirtual 123, 3) := by decide +kernel
theorem d_O_hold_21 : decode b_O_hold 21 = .ok (.ifCond .eq 19, 3) := by decide +kernel
theorem d_O_hold_24 : decode b_O_hold 24 = .ok (.iload_n 3, 1) := by decide +kernel
theorem d_O_hold_25 : decode b_O_hold 25 = .ok (.i2l, 1) := by decide +kernel
theorem d_O_hold_26 : decode b_O_hold 26 = .ok (.aload_n 0, 1) := by decide +kernel
theorem d_O_hold_27 : decode b_O_hold 27 = .ok (.getfield 88, 3) := by decide +kernel
theorem d_O_hold_30 : decode b_O_hold 30 = .ok (.i2l, 1) := by decide +kernel
theorem d_O_hold_31 : decode b_O_hold 31 = .ok (.ldc2_w 91, 3) := by decide +kernel
theorem d_O_hold_34 : decode b_O_hold 34 = .ok (.invokestatic 93, 3) := by decide +kernel
theorem d_O_hold_37 : decode b_O_hold 37 = .ok (.ifCond .ne 5, 3) := by decide +kernel
theorem d_O_hold_40 : decode b_O_hold 40 = .ok (.iconst 0, 1) := by decide +kernel
theorem d_O_hold_41 : decode b_O_hold 41 = .ok (.ireturn, 1) := by decide +kernel
theorem d_O_hold_42 : decode b_O_hold 42 = .ok (.aload_n 0, 1) := by decide +kernel
theorem d_O_hold_43 : decode b_O_hold 43 = .ok (.getfield 30, 3) := by decide +kernel
theorem d_O_hold_46 : decode b_O_hold 46 = .ok (.iload_n 1, 1) := by decide +kernel
theorem d_O_hold_47 : decode b_O_hold 47 = .ok (.iconst 1, 1) := by decide +kernel
theorem d_O_hold_48 : decode b_O_hold 48 = .ok (.iastore, 1) := by decide +kernel
theorem d_O_hold_49 : decode b_O_hold 49 = .ok (.aload_n 0, 1) := by decide +kernel
theorem d_O_hold_50 : decode b_O_hold 50 = .ok (.getfield 33, 3) := by decide +kernel
theorem d_O_hold_53 : decode b_O_hold 53 = .ok (.iload_n 1, 1) := by decide +kernel
theorem d_O_hold_54 : decode b_O_hold 54 = .ok (.iload_n 2, 1) := by decide +kernel
theorem d_O_hold_55 : decode b_O_hold 55 = .ok (.iastore, 1) := by decide +kernel
theorem d_O_hold_56 : decode b_O_hold 56 = .ok (.aload_n 0, 1) := by decide +kernel
theorem d_O_hold_57 : decode b_O_hold 57 = .ok (.getfield 36, 3) := by decide +kernel
theorem d_O_hold_60 : decode b_O_hold 60 = .ok (.iload_n 1, 1) := by decide +kernel
theorem d_O_hold_61 : decode b_O_hold 61 = .ok (.iload_n 3, 1) := by decide +kernel
theorem d_O_hold_62 : decode b_O_hold 62 = .ok (.iastore, 1) := by decide +kernel
theorem d_O_hold_63 : decode b_O_hold 63 = .ok (.iconst 1, 1) := by decide +kernel
theorem d_O_hold_64 : decode b_O_hold 64 = .ok (.ireturn, 1) := by decide +kernel
def w_O_hold : List Cond := .code y_O_hold b_O_hold 4 (some .boolean) :: ([.methodLink "PartShelvesModel" 108 ⟨"PartShelvesModel", "isPart", "(I)Z"⟩, .instanceMethod ⟨"PartShelvesModel", "isPart", "(I)Z"⟩, .selects "PartShelvesModel" ⟨"PartShelvesModel", "isPart", "(I)Z"⟩ ⟨"PartShelvesModel", "isPart", "(I)Z"⟩, .initialized "PartShelvesModel", .code ⟨"PartShelvesModel", "isPart", "(I)Z"⟩ prog_9_method_6_code 2 (some .boolean), .fieldLink "PartShelvesModel" 81 "PartShelvesModel" "parts" "I", .methodLink "PartShelvesModel" 117 ⟨"PartShelvesModel", "stateOf", "(I)I"⟩, .instanceMethod ⟨"PartShelvesModel", "stateOf", "(I)I"⟩, .selects "PartShelvesModel" ⟨"PartShelvesModel", "stateOf", "(I)I"⟩ ⟨"PartShelvesModel", "stateOf", "(I)I"⟩, .code ⟨"PartShelvesModel", "stateOf", "(I)I"⟩ prog_9_method_14_code 2 (some .int), .fieldLink "PartShelvesModel" 30 "PartShelvesModel" "states" "[I", .fieldLink "PartShelvesModel" 36 "PartShelvesModel" "days" "[I", .fieldLink "PartShelvesModel" 88 "PartShelvesModel" "today" "I", .methodLink "PartShelvesModel" 123 ⟨"PartShelvesModel", "isOpen", "(I)Z"⟩, .instanceMethod ⟨"PartShelvesModel", "isOpen", "(I)Z"⟩, .selects "PartShelvesModel" ⟨"PartShelvesModel", "isOpen", "(I)Z"⟩ ⟨"PartShelvesModel", "isOpen", "(I)Z"⟩, .code ⟨"PartShelvesModel", "isOpen", "(I)Z"⟩ prog_9_method_7_code 2 (some .boolean), .fieldLink "PartShelvesModel" 85 "PartShelvesModel" "asks" "I", .fieldLink "PartShelvesModel" 48 "PartShelvesModel" "served" "[Z", .constantLong "PartShelvesModel" 91 100000, .methodLink "PartShelvesModel" 93 ⟨"PartShelvesModel", "isIn", "(JJJ)Z"⟩, .static ⟨"PartShelvesModel", "isIn", "(JJJ)Z"⟩, .code ⟨"PartShelvesModel", "isIn", "(JJJ)Z"⟩ prog_9_method_3_code 6 (some .boolean), .fieldLink "PartShelvesModel" 33 "PartShelvesModel" "whose" "[I"] ++ u_ws R_O F_O 36)
set_option maxRecDepth 20000 in
theorem g_O_hold_isPart : GoodIn w_O_hold (wsV R_O 108 R_O y_O_isPart w_O_isPart) := goodIn_p _ [5] rfl (by decide +kernel)
set_option maxRecDepth 20000 in
theorem g_O_hold_stateOf : GoodIn w_O_hold (wsV R_O 117 R_O y_O_stateOf w_O_stateOf) := goodIn_p _ [10] rfl (by decide +kernel)
set_option maxRecDepth 20000 in
theorem g_O_hold_isOpen : GoodIn w_O_hold (wsV R_O 123 R_O y_O_isOpen w_O_isOpen) := goodIn_p _ [17] rfl (by decide +kernel)
set_option maxRecDepth 20000 in
theorem g_O_hold_isIn : GoodIn w_O_hold (wsS R_O 93 y_O_isIn w_O_isIn) := goodIn_p _ [23] rfl (by decide +kernel)
set_option maxHeartbeats 4000000 in
set_option maxRecDepth 100000 in
theorem c_O_hold (l : Launch) (D : va_G) (kC : Nat → ClassId) (ad : Nat → Nat) (td : Nat) (rn : Nat) (pn : Nat) (an : Nat) (jn : Nat) (tn : Nat) (bm : Int32) (fw : Int64) (gp : Nat) (ga : Nat) (bp : Int32) (fc : Int64) (fj : Nat) (rA : Nat → Nat) (rC : Nat → Nat) (ft : Nat → Int32) (kd : Nat → Nat) (aG : Nat → Nat) (sR : Nat → Nat) (sT : Nat → Nat) (wh : Nat → Nat) (dY : Nat → Nat) (pd : Nat → Nat) (cN : Nat → Nat) (mN : Nat → Nat) (sv : Nat → Int32) (nd : Nat → Nat) (wr : Nat → Nat) (tl : Nat → Nat) (lt : Nat → Int32) (lT : Nat → Nat) (lD : Nat → Nat) (gv : Nat → Int32) (gn : Nat → Int64) (od : Nat → Nat) (br : Nat → Nat) (x : Int32) (y : Int32) (z : Int32) (sz : Nat) (hpn : pn ≤ 8) (han : an ≤ 8) (hsT : ∀ j, sT j ≤ 3) (hdY : ∀ j, dY j ≤ 100000) (htd : td ≤ 100000) : Met l y_O_hold w_O_hold ({ frames := 1, cells := 0, slots := 0, locals := 25 } : Room) (gPre cls D (tyL kC) [.ref (ad 0), .int x, .int y, .int z] (fl [(wO kC ad td rn pn an jn tn bm fw gp ga bp fc fj rA rC ft kd aG sR sT wh dY pd cN mN sv nd wr tl lt lT lD gv gn od br)]) sz) (gQi cls D (tyL kC) (fl [(wO kC ad td rn pn an jn tn bm fw gp ga bp fc fj rA rC ft kd aG sR sT wh dY pd cN mN sv nd wr tl lt lT lD gv gn od br)]) sz (bI (inR x pn ∧ stOn (sT (nOf x)) (dY (nOf x)) td = 0 ∧ opn sv an y ∧ inI td 100000 z)) (fl [(wO kC ad td rn pn an jn tn bm fw gp ga bp fc fj rA rC ft kd aG sR (if (inR x pn ∧ stOn (sT (nOf x)) (dY (nOf x)) td = 0 ∧ opn sv an y ∧ inI td 100000 z) then updN sT (nOf x) 1 else sT) (if (inR x pn ∧ stOn (sT (nOf x)) (dY (nOf x)) td = 0 ∧ opn sv an y ∧ inI td 100000 z) then updN wh (nOf x) (nOf y) else wh) (if (inR x pn ∧ stOn (sT (nOf x)) (dY (nOf x)) td = 0 ∧ opn sv an y ∧ inI td 100000 z) then updN dY (nOf x) (nOf z) else dY) pd cN mN sv nd wr tl lt lT lD gv gn od br)])) 0 0 (va_A (fl [(wO kC ad td rn pn an jn tn bm fw gp ga bp fc fj rA rC ft kd aG sR sT wh dY pd cN mN sv nd wr tl lt lT lD gv gn od br)]) sz) := by
  refine Met.ofW (cc := b_O_hold) (maxL := 4) (ret := (some .boolean)) (by decide) rfl ?_
  intro p e s m args below meth c s₁ B hml hv
  obtain ⟨rfl, hsz, hP, hK, hD0⟩ := hv
  have hx := B.exec
  have hb := B.bytes
  have hr := B.returns
  have hts := atoms_spec (ws := w_O_hold) B.pre
  have hown : s.vm.findClass R_O = some m.cls := findClass_of_methodNamed B.named
  have hlocks := B.notSynchronized
  subst hsz
  obtain ⟨A, hAe⟩ : ∃ A : Nat → Prop, A = va_A (fl [(wO kC ad td rn pn an jn tn bm fw gp ga bp fc fj rA rC ft kd aG sR sT wh dY pd cN mN sv nd wr tl lt lT lD gv gn od br)]) s.heap.size := ⟨_, rfl⟩
  have hD : va_D A (fl [(wO kC ad td rn pn an jn tn bm fw gp ga bp fc fj rA rC ft kd aG sR sT wh dY pd cN mN sv nd wr tl lt lT lD gv gn od br)]) := by rw [hAe]; exact hD0.self
  have hA : ∀ q : Nat, s.heap.size ≤ q → A q := fun q h => by rw [hAe]; exact Or.inr h
  have hS : va_S A s.heap s.heap [] := va_S.rf
  have hl := lv_entry ([.ref (ad 0), .int x, .int y, .int z]) (n := 4) (Nat.le_of_ble_eq_true rfl)
  rw [lg_entry_eq]
  generalize (lg_sl ([.ref (ad 0), .int x, .int y, .int z]) ++ List.replicate (4 - (lg_sl ([.ref (ad 0), .int x, .int y, .int z])).length) Slot.unset).toArray = ls at hl ⊢
  have hl : lv_has ls 4 [(0, .ref (ad 0)), (1, .int x), (2, .int y), (3, .int z)] := hl
  refine lv_aload_n hx hb d_O_hold_0 rfl (lv_at hl 0 rfl) ?_
  refine lv_iload_n hx hb d_O_hold_1 rfl (lv_at hl 1 rfl) ?_
  refine r_calli (W.runV (As := [.int x]) (rest := []) ⟨hx, hb, hml, hown, hts⟩ (c_O_isPart l D kC ad td rn pn an jn tn bm fw gp ga bp fc fj rA rC ft kd aG sR sT wh dY pd cN mN sv nd wr tl lt lT lD gv gn od br x (hpn)) (cwV 1 hts g_O_hold_isPart rfl rfl rfl (by decide +kernel) ⟨Nat.le_of_ble_eq_true rfl, Nat.le_of_ble_eq_true rfl⟩) (r_preV (f_recv (ci := 7) (q0 := 0) hK hP 0 rfl rfl rfl) hK hP) rfl rfl hl.1 rfl (lv_room (Nat.le_of_ble_eq_true rfl)) d_O_hold_2 ⟨Nat.le_of_ble_eq_true rfl, Nat.le_of_ble_eq_true rfl⟩) ?_
  refine lv_if_eq (tgt := 40) hx hb d_O_hold_5 (by decide) (fun h1 => ?_) (fun h1 => ?_)
  · have hC : ¬ (inR x pn ∧ stOn (sT (nOf x)) (dY (nOf x)) td = 0 ∧ opn sv an y ∧ inI td 100000 z) := fun q => by first | exact bI_0.mp h4 (inL_i.mpr q.2.2.2) | exact bI_0.mp h3 q.2.2.1 | (have q2 := q.2.1; rw [nOf_nI (by omega)] at q2; exact h2 q2) | exact bI_0.mp h1 q.1
    refine lv_iconst (v := nI 0) hx hb d_O_hold_40 (by decide) ?_
    have ew1 : sT = (if (inR x pn ∧ stOn (sT (nOf x)) (dY (nOf x)) td = 0 ∧ opn sv an y ∧ inI td 100000 z) then updN sT (nOf x) 1 else sT) := (if_neg hC).symm
    have hP : va_P D cls (fl [(wO kC ad td rn pn an jn tn bm fw gp ga bp fc fj rA rC ft kd aG sR (if (inR x pn ∧ stOn (sT (nOf x)) (dY (nOf x)) td = 0 ∧ opn sv an y ∧ inI td 100000 z) then updN sT (nOf x) 1 else sT) wh dY pd cN mN sv nd wr tl lt lT lD gv gn od br)]) s.heap := by rw [← ew1]; exact hP
    have hD : va_D A (fl [(wO kC ad td rn pn an jn tn bm fw gp ga bp fc fj rA rC ft kd aG sR (if (inR x pn ∧ stOn (sT (nOf x)) (dY (nOf x)) td = 0 ∧ opn sv an y ∧ inI td 100000 z) then updN sT (nOf x) 1 else sT) wh dY pd cN mN sv nd wr tl lt lT lD gv gn od br)]) := by rw [← ew1]; exact hD
    have ew2 : wh = (if (inR x pn ∧ stOn (sT (nOf x)) (dY (nOf x)) td = 0 ∧ opn sv an y ∧ inI td 100000 z) then updN wh (nOf x) (nOf y) else wh) := (if_neg hC).symm
    have hP : va_P D cls (fl [(wO kC ad td rn pn an jn tn bm fw gp ga bp fc fj rA rC ft kd aG sR (if (inR x pn ∧ stOn (sT (nOf x)) (dY (nOf x)) td = 0 ∧ opn sv an y ∧ inI td 100000 z) then updN sT (nOf x) 1 else sT) (if (inR x pn ∧ stOn (sT (nOf x)) (dY (nOf x)) td = 0 ∧ opn sv an y ∧ inI td 100000 z) then updN wh (nOf x) (nOf y) else wh) dY pd cN mN sv nd wr tl lt lT lD gv gn od br)]) s.heap := by rw [← ew2]; exact hP
    have hD : va_D A (fl [(wO kC ad td rn pn an jn tn bm fw gp ga bp fc fj rA rC ft kd aG sR (if (inR x pn ∧ stOn (sT (nOf x)) (dY (nOf x)) td = 0 ∧ opn sv an y ∧ inI td 100000 z) then updN sT (nOf x) 1 else sT) (if (inR x pn ∧ stOn (sT (nOf x)) (dY (nOf x)) td = 0 ∧ opn sv an y ∧ inI td 100000 z) then updN wh (nOf x) (nOf y) else wh) dY pd cN mN sv nd wr tl lt lT lD gv gn od br)]) := by rw [← ew2]; exact hD
    have ew3 : dY = (if (inR x pn ∧ stOn (sT (nOf x)) (dY (nOf x)) td = 0 ∧ opn sv an y ∧ inI td 100000 z) then updN dY (nOf x) (nOf z) else dY) := (if_neg hC).symm
    have hP : va_P D cls (fl [(wO kC ad td rn pn an jn tn bm fw gp ga bp fc fj rA rC ft kd aG sR (if (inR x pn ∧ stOn (sT (nOf x)) (dY (nOf x)) td = 0 ∧ opn sv an y ∧ inI td 100000 z) then updN sT (nOf x) 1 else sT) (if (inR x pn ∧ stOn (sT (nOf x)) (dY (nOf x)) td = 0 ∧ opn sv an y ∧ inI td 100000 z) then updN wh (nOf x) (nOf y) else wh) (if (inR x pn ∧ stOn (sT (nOf x)) (dY (nOf x)) td = 0 ∧ opn sv an y ∧ inI td 100000 z) then updN dY (nOf x) (nOf z) else dY) pd cN mN sv nd wr tl lt lT lD gv gn od br)]) s.heap := by rw [← ew3]; exact hP
    have hD : va_D A (fl [(wO kC ad td rn pn an jn tn bm fw gp ga bp fc fj rA rC ft kd aG sR (if (inR x pn ∧ stOn (sT (nOf x)) (dY (nOf x)) td = 0 ∧ opn sv an y ∧ inI td 100000 z) then updN sT (nOf x) 1 else sT) (if (inR x pn ∧ stOn (sT (nOf x)) (dY (nOf x)) td = 0 ∧ opn sv an y ∧ inI td 100000 z) then updN wh (nOf x) (nOf y) else wh) (if (inR x pn ∧ stOn (sT (nOf x)) (dY (nOf x)) td = 0 ∧ opn sv an y ∧ inI td 100000 z) then updN dY (nOf x) (nOf z) else dY) pd cN mN sv nd wr tl lt lT lD gv gn od br)]) := by rw [← ew3]; exact hD
    exact W.zret (v := nI 0) hx hb hr (nar_b (by first | exact Or.inl rfl | exact Or.inr rfl | exact bI_01)) (fun t ht hW => by subst hAe; exact ⟨⟨(nI 0), (), rfl, (bI_f hC).symm, by rw [ht]; exact hP, va_K.moved hW.alike hK, hD⟩, hS.F ht⟩) (by subst hAe; exact hS.2.2) d_O_hold_41
  · have h1 := bI_n0.mp h1
    obtain ⟨j, hj, rfl⟩ := inR_n (by omega) h1
    refine lv_aload_n hx hb d_O_hold_8 rfl (lv_at hl 0 rfl) ?_
    refine lv_iload_n hx hb d_O_hold_9 rfl (lv_at hl 1 rfl) ?_
    refine r_calli (W.runV (As := [.int (nI j)]) (rest := []) ⟨hx, hb, hml, hown, hts⟩ (c_O_stOf l D kC ad td rn pn an jn tn bm fw gp ga bp fc fj rA rC ft kd aG sR sT wh dY pd cN mN sv nd wr tl lt lT lD gv gn od br j (by omega) (hsT) (hdY) (htd)) (cwV 1 hts g_O_hold_stateOf rfl rfl rfl (by decide +kernel) ⟨Nat.le_of_ble_eq_true rfl, Nat.le_of_ble_eq_true rfl⟩) (r_preV (f_recv (ci := 7) (q0 := 0) hK hP 0 rfl rfl rfl) hK hP) rfl rfl hl.1 rfl (lv_room (Nat.le_of_ble_eq_true rfl)) d_O_hold_10 ⟨Nat.le_of_ble_eq_true rfl, Nat.le_of_ble_eq_true rfl⟩) ?_
    refine nv_if_ne (tgt := 40) hx hb d_O_hold_13 (by decide) (Nat.lt_of_le_of_lt (stOn_le (hsT _)) (by decide)) (fun h2 => ?_) (fun h2 => ?_)
    · have hC : ¬ (inR (nI j) pn ∧ stOn (sT (nOf (nI j))) (dY (nOf (nI j))) td = 0 ∧ opn sv an y ∧ inI td 100000 z) := fun q => by first | exact bI_0.mp h4 (inL_i.mpr q.2.2.2) | exact bI_0.mp h3 q.2.2.1 | (have q2 := q.2.1; rw [nOf_nI (by omega)] at q2; exact h2 q2) | exact bI_0.mp h1 q.1
      refine lv_iconst (v := nI 0) hx hb d_O_hold_40 (by decide) ?_
      have ew4 : sT = (if (inR (nI j) pn ∧ stOn (sT (nOf (nI j))) (dY (nOf (nI j))) td = 0 ∧ opn sv an y ∧ inI td 100000 z) then updN sT (nOf (nI j)) 1 else sT) := (if_neg hC).symm
      have hP : va_P D cls (fl [(wO kC ad td rn pn an jn tn bm fw gp ga bp fc fj rA rC ft kd aG sR (if (inR (nI j) pn ∧ stOn (sT (nOf (nI j))) (dY (nOf (nI j))) td = 0 ∧ opn sv an y ∧ inI td 100000 z) then updN sT (nOf (nI j)) 1 else sT) wh dY pd cN mN sv nd wr tl lt lT lD gv gn od br)]) s.heap := by rw [← ew4]; exact hP
      have hD : va_D A (fl [(wO kC ad td rn pn an jn tn bm fw gp ga bp fc fj rA rC ft kd aG sR (if (inR (nI j) pn ∧ stOn (sT (nOf (nI j))) (dY (nOf (nI j))) td = 0 ∧ opn sv an y ∧ inI td 100000 z) then updN sT (nOf (nI j)) 1 else sT) wh dY pd cN mN sv nd wr tl lt lT lD gv gn od br)]) := by rw [← ew4]; exact hD
      have ew5 : wh = (if (inR (nI j) pn ∧ stOn (sT (nOf (nI j))) (dY (nOf (nI j))) td = 0 ∧ opn sv an y ∧ inI td 100000 z) then updN wh (nOf (nI j)) (nOf y) else wh) := (if_neg hC).symm
      have hP : va_P D cls (fl [(wO kC ad td rn pn an jn tn bm fw gp ga bp fc fj rA rC ft kd aG sR (if (inR (nI j) pn ∧ stOn (sT (nOf (nI j))) (dY (nOf (nI j))) td = 0 ∧ opn sv an y ∧ inI td 100000 z) then updN sT (nOf (nI j)) 1 else sT) (if (inR (nI j) pn ∧ stOn (sT (nOf (nI j))) (dY (nOf (nI j))) td = 0 ∧ opn sv an y ∧ inI td 100000 z) then updN wh (nOf (nI j)) (nOf y) else wh) dY pd cN mN sv nd wr tl lt lT lD gv gn od br)]) s.heap := by rw [← ew5]; exact hP
      have hD : va_D A (fl [(wO kC ad td rn pn an jn tn bm fw gp ga bp fc fj rA rC ft kd aG sR (if (inR (nI j) pn ∧ stOn (sT (nOf (nI j))) (dY (nOf (nI j))) td = 0 ∧ opn sv an y ∧ inI td 100000 z) then updN sT (nOf (nI j)) 1 else sT) (if (inR (nI j) pn ∧ stOn (sT (nOf (nI j))) (dY (nOf (nI j))) td = 0 ∧ opn sv an y ∧ inI td 100000 z) then updN wh (nOf (nI j)) (nOf y) else wh) dY pd cN mN sv nd wr tl lt lT lD gv gn od br)]) := by rw [← ew5]; exact hD
      have ew6 : dY = (if (inR (nI j) pn ∧ stOn (sT (nOf (nI j))) (dY (nOf (nI j))) td = 0 ∧ opn sv an y ∧ inI td 100000 z) then updN dY (nOf (nI j)) (nOf z) else dY) := (if_neg hC).symm
      have hP : va_P D cls (fl [(wO kC ad td rn pn an jn tn bm fw gp ga bp fc fj rA rC ft kd aG sR (if (inR (nI j) pn ∧ stOn (sT (nOf (nI j))) (dY (nOf (nI j))) td = 0 ∧ opn sv an y ∧ inI td 100000 z) then updN sT (nOf (nI j)) 1 else sT) (if (inR (nI j) pn ∧ stOn (sT (nOf (nI j))) (dY (nOf (nI j))) td = 0 ∧ opn sv an y ∧ inI td 100000 z) then updN wh (nOf (nI j)) (nOf y) else wh) (if (inR (nI j) pn ∧ stOn (sT (nOf (nI j))) (dY (nOf (nI j))) td = 0 ∧ opn sv an y ∧ inI td 100000 z) then updN dY (nOf (nI j)) (nOf z) else dY) pd cN mN sv nd wr tl lt lT lD gv gn od br)]) s.heap := by rw [← ew6]; exact hP
      have hD : va_D A (fl [(wO kC ad td rn pn an jn tn bm fw gp ga bp fc fj rA rC ft kd aG sR (if (inR (nI j) pn ∧ stOn (sT (nOf (nI j))) (dY (nOf (nI j))) td = 0 ∧ opn sv an y ∧ inI td 100000 z) then updN sT (nOf (nI j)) 1 else sT) (if (inR (nI j) pn ∧ stOn (sT (nOf (nI j))) (dY (nOf (nI j))) td = 0 ∧ opn sv an y ∧ inI td 100000 z) then updN wh (nOf (nI j)) (nOf y) else wh) (if (inR (nI j) pn ∧ stOn (sT (nOf (nI j))) (dY (nOf (nI j))) td = 0 ∧ opn sv an y ∧ inI td 100000 z) then updN dY (nOf (nI j)) (nOf z) else dY) pd cN mN sv nd wr tl lt lT lD gv gn od br)]) := by rw [← ew6]; exact hD
      exact W.zret (v := nI 0) hx hb hr (nar_b (by first | exact Or.inl rfl | exact Or.inr rfl | exact bI_01)) (fun t ht hW => by subst hAe; exact ⟨⟨(nI 0), (), rfl, (bI_f hC).symm, by rw [ht]; exact hP, va_K.moved hW.alike hK, hD⟩, hS.F ht⟩) (by subst hAe; exact hS.2.2) d_O_hold_41
    · refine lv_aload_n hx hb d_O_hold_16 rfl (lv_at hl 0 rfl) ?_
      refine lv_iload_n hx hb d_O_hold_17 rfl (lv_at hl 2 rfl) ?_
      refine r_calli (W.runV (As := [.int y]) (rest := []) ⟨hx, hb, hml, hown, hts⟩ (c_O_isOpen l D kC ad td rn pn an jn tn bm fw gp ga bp fc fj rA rC ft kd aG sR sT wh dY pd cN mN sv nd wr tl lt lT lD gv gn od br y (han)) (cwV 1 hts g_O_hold_isOpen rfl rfl rfl (by decide +kernel) ⟨Nat.le_of_ble_eq_true rfl, Nat.le_of_ble_eq_true rfl⟩) (r_preV (f_recv (ci := 7) (q0 := 0) hK hP 0 rfl rfl rfl) hK hP) rfl rfl hl.1 rfl (lv_room (Nat.le_of_ble_eq_true rfl)) d_O_hold_18 ⟨Nat.le_of_ble_eq_true rfl, Nat.le_of_ble_eq_true rfl⟩) ?_
      refine lv_if_eq (tgt := 40) hx hb d_O_hold_21 (by decide) (fun h3 => ?_) (fun h3 => ?_)
      · have hC : ¬ (inR (nI j) pn ∧ stOn (sT (nOf (nI j))) (dY (nOf (nI j))) td = 0 ∧ opn sv an y ∧ inI td 100000 z) := fun q => by first | exact bI_0.mp h4 (inL_i.mpr q.2.2.2) | exact bI_0.mp h3 q.2.2.1 | (have q2 := q.2.1; rw [nOf_nI (by omega)] at q2; exact h2 q2) | exact bI_0.mp h1 q.1
        refine lv_iconst (v := nI 0) hx hb d_O_hold_40 (by decide) ?_
        have ew7 : sT = (if (inR (nI j) pn ∧ stOn (sT (nOf (nI j))) (dY (nOf (nI j))) td = 0 ∧ opn sv an y ∧ inI td 100000 z) then updN sT (nOf (nI j)) 1 else sT) := (if_neg hC).symm
        have hP : va_P D cls (fl [(wO kC ad td rn pn an jn tn bm fw gp ga bp fc fj rA rC ft kd aG sR (if (inR (nI j) pn ∧ stOn (sT (nOf (nI j))) (dY (nOf (nI j))) td = 0 ∧ opn sv an y ∧ inI td 100000 z) then updN sT (nOf (nI j)) 1 else sT) wh dY pd cN mN sv nd wr tl lt lT lD gv gn od br)]) s.heap := by rw [← ew7]; exact hP
        have hD : va_D A (fl [(wO kC ad td rn pn an jn tn bm fw gp ga bp fc fj rA rC ft kd aG sR (if (inR (nI j) pn ∧ stOn (sT (nOf (nI j))) (dY (nOf (nI j))) td = 0 ∧ opn sv an y ∧ inI td 100000 z) then updN sT (nOf (nI j)) 1 else sT) wh dY pd cN mN sv nd wr tl lt lT lD gv gn od br)]) := by rw [← ew7]; exact hD
        have ew8 : wh = (if (inR (nI j) pn ∧ stOn (sT (nOf (nI j))) (dY (nOf (nI j))) td = 0 ∧ opn sv an y ∧ inI td 100000 z) then updN wh (nOf (nI j)) (nOf y) else wh) := (if_neg hC).symm
        have hP : va_P D cls (fl [(wO kC ad td rn pn an jn tn bm fw gp ga bp fc fj rA rC ft kd aG sR (if (inR (nI j) pn ∧ stOn (sT (nOf (nI j))) (dY (nOf (nI j))) td = 0 ∧ opn sv an y ∧ inI td 100000 z) then updN sT (nOf (nI j)) 1 else sT) (if (inR (nI j) pn ∧ stOn (sT (nOf (nI j))) (dY (nOf (nI j))) td = 0 ∧ opn sv an y ∧ inI td 100000 z) then updN wh (nOf (nI j)) (nOf y) else wh) dY pd cN mN sv nd wr tl lt lT lD gv gn od br)]) s.heap := by rw [← ew8]; exact hP
        have hD : va_D A (fl [(wO kC ad td rn pn an jn tn bm fw gp ga bp fc fj rA rC ft kd aG sR (if (inR (nI j) pn ∧ stOn (sT (nOf (nI j))) (dY (nOf (nI j))) td = 0 ∧ opn sv an y ∧ inI td 100000 z) then updN sT (nOf (nI j)) 1 else sT) (if (inR (nI j) pn ∧ stOn (sT (nOf (nI j))) (dY (nOf (nI j))) td = 0 ∧ opn sv an y ∧ inI td 100000 z) then updN wh (nOf (nI j)) (nOf y) else wh) dY pd cN mN sv nd wr tl lt lT lD gv gn od br)]) := by rw [← ew8]; exact hD
        have ew9 : dY = (if (inR (nI j) pn ∧ stOn (sT (nOf (nI j))) (dY (nOf (nI j))) td = 0 ∧ opn sv an y ∧ inI td 100000 z) then updN dY (nOf (nI j)) (nOf z) else dY) := (if_neg hC).symm
        have hP : va_P D cls (fl [(wO kC ad td rn pn an jn tn bm fw gp ga bp fc fj rA rC ft kd aG sR (if (inR (nI j) pn ∧ stOn (sT (nOf (nI j))) (dY (nOf (nI j))) td = 0 ∧ opn sv an y ∧ inI td 100000 z) then updN sT (nOf (nI j)) 1 else sT) (if (inR (nI j) pn ∧ stOn (sT (nOf (nI j))) (dY (nOf (nI j))) td = 0 ∧ opn sv an y ∧ inI td 100000 z) then updN wh (nOf (nI j)) (nOf y) else wh) (if (inR (nI j) pn ∧ stOn (sT (nOf (nI j))) (dY (nOf (nI j))) td = 0 ∧ opn sv an y ∧ inI td 100000 z) then updN dY (nOf (nI j)) (nOf z) else dY) pd cN mN sv nd wr tl lt lT lD gv gn od br)]) s.heap := by rw [← ew9]; exact hP
        have hD : va_D A (fl [(wO kC ad td rn pn an jn tn bm fw gp ga bp fc fj rA rC ft kd aG sR (if (inR (nI j) pn ∧ stOn (sT (nOf (nI j))) (dY (nOf (nI j))) td = 0 ∧ opn sv an y ∧ inI td 100000 z) then updN sT (nOf (nI j)) 1 else sT) (if (inR (nI j) pn ∧ stOn (sT (nOf (nI j))) (dY (nOf (nI j))) td = 0 ∧ opn sv an y ∧ inI td 100000 z) then updN wh (nOf (nI j)) (nOf y) else wh) (if (inR (nI j) pn ∧ stOn (sT (nOf (nI j))) (dY (nOf (nI j))) td = 0 ∧ opn sv an y ∧ inI td 100000 z) then updN dY (nOf (nI j)) (nOf z) else dY) pd cN mN sv nd wr tl lt lT lD gv gn od br)]) := by rw [← ew9]; exact hD
        exact W.zret (v := nI 0) hx hb hr (nar_b (by first | exact Or.inl rfl | exact Or.inr rfl | exact bI_01)) (fun t ht hW => by subst hAe; exact ⟨⟨(nI 0), (), rfl, (bI_f hC).symm, by rw [ht]; exact hP, va_K.moved hW.alike hK, hD⟩, hS.F ht⟩) (by subst hAe; exact hS.2.2) d_O_hold_41
      · have h3 := bI_n0.mp h3
        refine lv_iload_n hx hb d_O_hold_24 rfl (lv_at hl 3 rfl) ?_
        refine lv_i2l hx hb d_O_hold_25 rfl ?_
        refine lv_aload_n hx hb d_O_hold_26 rfl (lv_at hl 0 rfl) ?_
        refine fv_get (ci := 7) (v := .int (nI td)) (C := R_O) (T := F_O) (N := 36) hx hb hts (by decide +kernel) hown hK hP 0 0 rfl rfl rfl 0 (by decide) (hts (.fieldLink R_O 88 "PartShelvesModel" "today" "I") (by decide +kernel)) (fun _ h9 => h9) rfl d_O_hold_27 ?_
        refine nv_i2l hx hb d_O_hold_30 (by omega) ?_
        refine lv_ldc2 (v := 100000) hx hb hown (hts (.constantLong R_O 91 100000) (by decide +kernel)) d_O_hold_31 ?_
        refine nv_topl (y := lN 100000) (by decide +kernel) ?_
        refine r_calli (W.runS (As := [.long z.toInt64, .long (lN td), .long (lN 100000)]) (rest := []) ⟨hx, hb, hml, hown, hts⟩ (c_O_isIn l z.toInt64 td 100000 (by omega) (by decide)) (cwS 3 hts g_O_hold_isIn rfl rfl rfl (by decide +kernel) ⟨Nat.le_of_ble_eq_true rfl, Nat.le_of_ble_eq_true rfl⟩) p0_preS rfl rfl hl.1 rfl (lv_room (Nat.le_of_ble_eq_true rfl)) d_O_hold_34 ⟨Nat.le_of_ble_eq_true rfl, Nat.le_of_ble_eq_true rfl⟩) ?_
        refine lv_if_ne (tgt := 42) hx hb d_O_hold_37 (by decide) (fun h4 => ?_) (fun h4 => ?_)
        · have h4 := inL_i.mp (bI_n0.mp h4)
          have hC : (inR (nI j) pn ∧ stOn (sT (nOf (nI j))) (dY (nOf (nI j))) td = 0 ∧ opn sv an y ∧ inI td 100000 z) := ⟨h1, by rw [nOf_nI (by omega)]; exact h2, h3, h4⟩
          obtain ⟨k, hk, rfl⟩ := inR_n (by omega) h3.1
          obtain ⟨i, hi1, hi2, rfl⟩ := inI_n (by decide) h4
          refine lv_aload_n hx hb d_O_hold_42 rfl (lv_at hl 0 rfl) ?_
          refine fv_get (ci := 7) (v := .ref (ad 7)) (C := R_O) (T := F_O) (N := 36) hx hb hts (by decide +kernel) hown hK hP 0 0 rfl rfl rfl 9 (by decide) (hts (.fieldLink R_O 30 "PartShelvesModel" "states" "[I") (by decide +kernel)) (fun _ h9 => h9) rfl d_O_hold_43 ?_
          refine lv_iload_n hx hb d_O_hold_46 rfl (lv_at hl 1 rfl) ?_
          refine lv_iconst (v := nI 1) hx hb d_O_hold_47 (by decide) ?_
          refine fa_iastN hx hb hK hP hD hS 0 7 0 rfl rfl rfl (by omega) (by decide) d_O_hold_48 (fun H locs hP hD hS => ?_)
          have hP : va_P D cls (fl [(wO kC ad td rn pn an jn tn bm fw gp ga bp fc fj rA rC ft kd aG sR (updN sT j 1) wh dY pd cN mN sv nd wr tl lt lT lD gv gn od br)]) H := hP
          have hD : va_D A (fl [(wO kC ad td rn pn an jn tn bm fw gp ga bp fc fj rA rC ft kd aG sR (updN sT j 1) wh dY pd cN mN sv nd wr tl lt lT lD gv gn od br)]) := hD
          refine lv_aload_n hx hb d_O_hold_49 rfl (lv_at hl 0 rfl) ?_
          refine fv_get (ci := 7) (v := .ref (ad 8)) (C := R_O) (T := F_O) (N := 36) hx hb hts (by decide +kernel) hown hK hP 0 0 rfl rfl rfl 10 (by decide) (hts (.fieldLink R_O 33 "PartShelvesModel" "whose" "[I") (by decide +kernel)) (fun _ h9 => h9) rfl d_O_hold_50 ?_
          refine lv_iload_n hx hb d_O_hold_53 rfl (lv_at hl 1 rfl) ?_
          refine lv_iload_n hx hb d_O_hold_54 rfl (lv_at hl 2 rfl) ?_
          refine fa_iastN hx hb hK hP hD hS 0 8 0 rfl rfl rfl (by omega) (by decide) d_O_hold_55 (fun H locs hP hD hS => ?_)
          have hP : va_P D cls (fl [(wO kC ad td rn pn an jn tn bm fw gp ga bp fc fj rA rC ft kd aG sR (updN sT j 1) (updN wh j k) dY pd cN mN sv nd wr tl lt lT lD gv gn od br)]) H := hP
          have hD : va_D A (fl [(wO kC ad td rn pn an jn tn bm fw gp ga bp fc fj rA rC ft kd aG sR (updN sT j 1) (updN wh j k) dY pd cN mN sv nd wr tl lt lT lD gv gn od br)]) := hD
          refine lv_aload_n hx hb d_O_hold_56 rfl (lv_at hl 0 rfl) ?_
          refine fv_get (ci := 7) (v := .ref (ad 9)) (C := R_O) (T := F_O) (N := 36) hx hb hts (by decide +kernel) hown hK hP 0 0 rfl rfl rfl 11 (by decide) (hts (.fieldLink R_O 36 "PartShelvesModel" "days" "[I") (by decide +kernel)) (fun _ h9 => h9) rfl d_O_hold_57 ?_
          refine lv_iload_n hx hb d_O_hold_60 rfl (lv_at hl 1 rfl) ?_
          refine lv_iload_n hx hb d_O_hold_61 rfl (lv_at hl 3 rfl) ?_
          refine fa_iastN hx hb hK hP hD hS 0 9 0 rfl rfl rfl (by omega) (by decide) d_O_hold_62 (fun H locs hP hD hS => ?_)
          have hP : va_P D cls (fl [(wO kC ad td rn pn an jn tn bm fw gp ga bp fc fj rA rC ft kd aG sR (updN sT j 1) (updN wh j k) (updN dY j i) pd cN mN sv nd wr tl lt lT lD gv gn od br)]) H := hP
          have hD : va_D A (fl [(wO kC ad td rn pn an jn tn bm fw gp ga bp fc fj rA rC ft kd aG sR (updN sT j 1) (updN wh j k) (updN dY j i) pd cN mN sv nd wr tl lt lT lD gv gn od br)]) := hD
          refine lv_iconst (v := nI 1) hx hb d_O_hold_63 (by decide) ?_
          have ew10 : (updN sT j 1) = (if (inR (nI j) pn ∧ stOn (sT (nOf (nI j))) (dY (nOf (nI j))) td = 0 ∧ opn sv an (nI k) ∧ inI td 100000 (nI i)) then updN sT (nOf (nI j)) 1 else sT) := by rw [if_pos hC, nOf_nI (by omega)]
          have hP : va_P D cls (fl [(wO kC ad td rn pn an jn tn bm fw gp ga bp fc fj rA rC ft kd aG sR (if (inR (nI j) pn ∧ stOn (sT (nOf (nI j))) (dY (nOf (nI j))) td = 0 ∧ opn sv an (nI k) ∧ inI td 100000 (nI i)) then updN sT (nOf (nI j)) 1 else sT) (updN wh j k) (updN dY j i) pd cN mN sv nd wr tl lt lT lD gv gn od br)]) H := by rw [← ew10]; exact hP
          have hD : va_D A (fl [(wO kC ad td rn pn an jn tn bm fw gp ga bp fc fj rA rC ft kd aG sR (if (inR (nI j) pn ∧ stOn (sT (nOf (nI j))) (dY (nOf (nI j))) td = 0 ∧ opn sv an (nI k) ∧ inI td 100000 (nI i)) then updN sT (nOf (nI j)) 1 else sT) (updN wh j k) (updN dY j i) pd cN mN sv nd wr tl lt lT lD gv gn od br)]) := by rw [← ew10]; exact hD
          have ew11 : (updN wh j k) = (if (inR (nI j) pn ∧ stOn (sT (nOf (nI j))) (dY (nOf (nI j))) td = 0 ∧ opn sv an (nI k) ∧ inI td 100000 (nI i)) then updN wh (nOf (nI j)) (nOf (nI k)) else wh) := by rw [if_pos hC, nOf_nI (by omega), nOf_nI (by omega)]
          have hP : va_P D cls (fl [(wO kC ad td rn pn an jn tn bm fw gp ga bp fc fj rA rC ft kd aG sR (if (inR (nI j) pn ∧ stOn (sT (nOf (nI j))) (dY (nOf (nI j))) td = 0 ∧ opn sv an (nI k) ∧ inI td 100000 (nI i)) then updN sT (nOf (nI j)) 1 else sT) (if (inR (nI j) pn ∧ stOn (sT (nOf (nI j))) (dY (nOf (nI j))) td = 0 ∧ opn sv an (nI k) ∧ inI td 100000 (nI i)) then updN wh (nOf (nI j)) (nOf (nI k)) else wh) (updN dY j i) pd cN mN sv nd wr tl lt lT lD gv gn od br)]) H := by rw [← ew11]; exact hP
          have hD : va_D A (fl [(wO kC ad td rn pn an jn tn bm fw gp ga bp fc fj rA rC ft kd aG sR (if (inR (nI j) pn ∧ stOn (sT (nOf (nI j))) (dY (nOf (nI j))) td = 0 ∧ opn sv an (nI k) ∧ inI td 100000 (nI i)) then updN sT (nOf (nI j)) 1 else sT) (if (inR (nI j) pn ∧ stOn (sT (nOf (nI j))) (dY (nOf (nI j))) td = 0 ∧ opn sv an (nI k) ∧ inI td 100000 (nI i)) then updN wh (nOf (nI j)) (nOf (nI k)) else wh) (updN dY j i) pd cN mN sv nd wr tl lt lT lD gv gn od br)]) := by rw [← ew11]; exact hD
          have ew12 : (updN dY j i) = (if (inR (nI j) pn ∧ stOn (sT (nOf (nI j))) (dY (nOf (nI j))) td = 0 ∧ opn sv an (nI k) ∧ inI td 100000 (nI i)) then updN dY (nOf (nI j)) (nOf (nI i)) else dY) := by rw [if_pos hC, nOf_nI (by omega), nOf_nI (by omega)]
          have hP : va_P D cls (fl [(wO kC ad td rn pn an jn tn bm fw gp ga bp fc fj rA rC ft kd aG sR (if (inR (nI j) pn ∧ stOn (sT (nOf (nI j))) (dY (nOf (nI j))) td = 0 ∧ opn sv an (nI k) ∧ inI td 100000 (nI i)) then updN sT (nOf (nI j)) 1 else sT) (if (inR (nI j) pn ∧ stOn (sT (nOf (nI j))) (dY (nOf (nI j))) td = 0 ∧ opn sv an (nI k) ∧ inI td 100000 (nI i)) then updN wh (nOf (nI j)) (nOf (nI k)) else wh) (if (inR (nI j) pn ∧ stOn (sT (nOf (nI j))) (dY (nOf (nI j))) td = 0 ∧ opn sv an (nI k) ∧ inI td 100000 (nI i)) then updN dY (nOf (nI j)) (nOf (nI i)) else dY) pd cN mN sv nd wr tl lt lT lD gv gn od br)]) H := by rw [← ew12]; exact hP
          have hD : va_D A (fl [(wO kC ad td rn pn an jn tn bm fw gp ga bp fc fj rA rC ft kd aG sR (if (inR (nI j) pn ∧ stOn (sT (nOf (nI j))) (dY (nOf (nI j))) td = 0 ∧ opn sv an (nI k) ∧ inI td 100000 (nI i)) then updN sT (nOf (nI j)) 1 else sT) (if (inR (nI j) pn ∧ stOn (sT (nOf (nI j))) (dY (nOf (nI j))) td = 0 ∧ opn sv an (nI k) ∧ inI td 100000 (nI i)) then updN wh (nOf (nI j)) (nOf (nI k)) else wh) (if (inR (nI j) pn ∧ stOn (sT (nOf (nI j))) (dY (nOf (nI j))) td = 0 ∧ opn sv an (nI k) ∧ inI td 100000 (nI i)) then updN dY (nOf (nI j)) (nOf (nI i)) else dY) pd cN mN sv nd wr tl lt lT lD gv gn od br)]) := by rw [← ew12]; exact hD
          exact W.zret (v := nI 1) hx hb hr (nar_b (by first | exact Or.inl rfl | exact Or.inr rfl | exact bI_01)) (fun t ht hW => by subst hAe; exact ⟨⟨(nI 1), (), rfl, (bI_t hC).symm, by rw [ht]; exact hP, va_K.moved hW.alike hK, hD⟩, hS.F ht⟩) (by subst hAe; exact hS.2.2) d_O_hold_64
        · have hC : ¬ (inR (nI j) pn ∧ stOn (sT (nOf (nI j))) (dY (nOf (nI j))) td = 0 ∧ opn sv an y ∧ inI td 100000 z) := fun q => by first | exact bI_0.mp h4 (inL_i.mpr q.2.2.2) | exact bI_0.mp h3 q.2.2.1 | (have q2 := q.2.1; rw [nOf_nI (by omega)] at q2; exact h2 q2) | exact bI_0.mp h1 q.1
          refine lv_iconst (v := nI 0) hx hb d_O_hold_40 (by decide) ?_
          have ew13 : sT = (if (inR (nI j) pn ∧ stOn (sT (nOf (nI j))) (dY (nOf (nI j))) td = 0 ∧ opn sv an y ∧ inI td 100000 z) then updN sT (nOf (nI j)) 1 else sT) := (if_neg hC).symm
          have hP : va_P D cls (fl [(wO kC ad td rn pn an jn tn bm fw gp ga bp fc fj rA rC ft kd aG sR (if (inR (nI j) pn ∧ stOn (sT (nOf (nI j))) (dY (nOf (nI j))) td = 0 ∧ opn sv an y ∧ inI td 100000 z) then updN sT (nOf (nI j)) 1 else sT) wh dY pd cN mN sv nd wr tl lt lT lD gv gn od br)]) s.heap := by rw [← ew13]; exact hP
          have hD : va_D A (fl [(wO kC ad td rn pn an jn tn bm fw gp ga bp fc fj rA rC ft kd aG sR (if (inR (nI j) pn ∧ stOn (sT (nOf (nI j))) (dY (nOf (nI j))) td = 0 ∧ opn sv an y ∧ inI td 100000 z) then updN sT (nOf (nI j)) 1 else sT) wh dY pd cN mN sv nd wr tl lt lT lD gv gn od br)]) := by rw [← ew13]; exact hD
          have ew14 : wh = (if (inR (nI j) pn ∧ stOn (sT (nOf (nI j))) (dY (nOf (nI j))) td = 0 ∧ opn sv an y ∧ inI td 100000 z) then updN wh (nOf (nI j)) (nOf y) else wh) := (if_neg hC).symm
          have hP : va_P D cls (fl [(wO kC ad td rn pn an jn tn bm fw gp ga bp fc fj rA rC ft kd aG sR (if (inR (nI j) pn ∧ stOn (sT (nOf (nI j))) (dY (nOf (nI j))) td = 0 ∧ opn sv an y ∧ inI td 100000 z) then updN sT (nOf (nI j)) 1 else sT) (if (inR (nI j) pn ∧ stOn (sT (nOf (nI j))) (dY (nOf (nI j))) td = 0 ∧ opn sv an y ∧ inI td 100000 z) then updN wh (nOf (nI j)) (nOf y) else wh) dY pd cN mN sv nd wr tl lt lT lD gv gn od br)]) s.heap := by rw [← ew14]; exact hP
          have hD : va_D A (fl [(wO kC ad td rn pn an jn tn bm fw gp ga bp fc fj rA rC ft kd aG sR (if (inR (nI j) pn ∧ stOn (sT (nOf (nI j))) (dY (nOf (nI j))) td = 0 ∧ opn sv an y ∧ inI td 100000 z) then updN sT (nOf (nI j)) 1 else sT) (if (inR (nI j) pn ∧ stOn (sT (nOf (nI j))) (dY (nOf (nI j))) td = 0 ∧ opn sv an y ∧ inI td 100000 z) then updN wh (nOf (nI j)) (nOf y) else wh) dY pd cN mN sv nd wr tl lt lT lD gv gn od br)]) := by rw [← ew14]; exact hD
          have ew15 : dY = (if (inR (nI j) pn ∧ stOn (sT (nOf (nI j))) (dY (nOf (nI j))) td = 0 ∧ opn sv an y ∧ inI td 100000 z) then updN dY (nOf (nI j)) (nOf z) else dY) := (if_neg hC).symm
          have hP : va_P D cls (fl [(wO kC ad td rn pn an jn tn bm fw gp ga bp fc fj rA rC ft kd aG sR (if (inR (nI j) pn ∧ stOn (sT (nOf (nI j))) (dY (nOf (nI j))) td = 0 ∧ opn sv an y ∧ inI td 100000 z) then updN sT (nOf (nI j)) 1 else sT) (if (inR (nI j) pn ∧ stOn (sT (nOf (nI j))) (dY (nOf (nI j))) td = 0 ∧ opn sv an y ∧ inI td 100000 z) then updN wh (nOf (nI j)) (nOf y) else wh) (if (inR (nI j) pn ∧ stOn (sT (nOf (nI j))) (dY (nOf (nI j))) td = 0 ∧ opn sv an y ∧ inI td 100000 z) then updN dY (nOf (nI j)) (nOf z) else dY) pd cN mN sv nd wr tl lt lT lD gv gn od br)]) s.heap := by rw [← ew15]; exact hP
          have hD : va_D A (fl [(wO kC ad td rn pn an jn tn bm fw gp ga bp fc fj rA rC ft kd aG sR (if (inR (nI j) pn ∧ stOn (sT (nOf (nI j))) (dY (nOf (nI j))) td = 0 ∧ opn sv an y ∧ inI td 100000 z) then updN sT (nOf (nI j)) 1 else sT) (if (inR (nI j) pn ∧ stOn (sT (nOf (nI j))) (dY (nOf (nI j))) td = 0 ∧ opn sv an y ∧ inI td 100000 z) then updN wh (nOf (nI j)) (nOf y) else wh) (if (inR (nI j) pn ∧ stOn (sT (nOf (nI j))) (dY (nOf (nI j))) td = 0 ∧ opn sv an y ∧ inI td 100000 z) then updN dY (nOf (nI j)) (nOf z) else dY) pd cN mN sv nd wr tl lt lT lD gv gn od br)]) := by rw [← ew15]; exact hD
          exact W.zret (v := nI 0) hx hb hr (nar_b (by first | exact Or.inl rfl | exact Or.inr rfl | exact bI_01)) (fun t ht hW => by subst hAe; exact ⟨⟨(nI 0), (), rfl, (bI_f hC).symm, by rw [ht]; exact hP, va_K.moved hW.alike hK, hD⟩, hS.F ht⟩) (by subst hAe; exact hS.2.2) d_O_hold_41

abbrev b_O_of : ByteArray := prog_9_method_23_code
def y_O_of : MethodName := ⟨"PartShelvesModel", "of", "(I)I"⟩
theorem d_O_of_0 : decode b_O_of 0 = .ok (.iload_n 1, 1) := by decide +kernel
theorem d_O_of_1 : decode b_O_of 1 = .ok (.ifCond .lt 18, 3) := by decide +kernel
theorem d_O_of_4 : decode b_O_of 4 = .ok (.iload_n 1, 1) := by decide +kernel
theorem d_O_of_5 : decode b_O_of 5 = .ok (.bipush 8, 2) := by decide +kernel
theorem d_O_of_7 : decode b_O_of 7 = .ok (.if_icmp .ge 12, 3) := by decide +kernel
theorem d_O_of_10 : decode b_O_of 10 = .ok (.aload_n 0, 1) := by decide +kernel
theorem d_O_of_11 : decode b_O_of 11 = .ok (.getfield 69, 3) := by decide +kernel
theorem d_O_of_14 : decode b_O_of 14 = .ok (.iload_n 1, 1) := by decide +kernel
theorem d_O_of_15 : decode b_O_of 15 = .ok (.iaload, 1) := by decide +kernel
theorem d_O_of_16 : decode b_O_of 16 = .ok (.goto 4, 3) := by decide +kernel
theorem d_O_of_19 : decode b_O_of 19 = .ok (.iconst (-1), 1) := by decide +kernel
theorem d_O_of_20 : decode b_O_of 20 = .ok (.ireturn, 1) := by decide +kernel
def w_O_of : List Cond := .code y_O_of b_O_of 2 (some .int) :: ([.fieldLink "PartShelvesModel" 69 "PartShelvesModel" "given" "[I"] ++ u_ws R_O F_O 36)
set_option maxHeartbeats 4000000 in
set_option maxRecDepth 100000 in
theorem c_O_of (l : Launch) (D : va_G) (kC : Nat → ClassId) (ad : Nat → Nat) (td : Nat) (rn : Nat) (pn : Nat) (an : Nat) (jn : Nat) (tn : Nat) (bm : Int32) (fw : Int64) (gp : Nat) (ga : Nat) (bp : Int32) (fc : Int64) (fj : Nat) (rA : Nat → Nat) (rC : Nat → Nat) (ft : Nat → Int32) (kd : Nat → Nat) (aG : Nat → Nat) (sR : Nat → Nat) (sT : Nat → Nat) (wh : Nat → Nat) (dY : Nat → Nat) (pd : Nat → Nat) (cN : Nat → Nat) (mN : Nat → Nat) (sv : Nat → Int32) (nd : Nat → Nat) (wr : Nat → Nat) (tl : Nat → Nat) (lt : Nat → Int32) (lT : Nat → Nat) (lD : Nat → Nat) (gv : Nat → Int32) (gn : Nat → Int64) (od : Nat → Nat) (br : Nat → Nat) (x : Int32) : Met l y_O_of w_O_of ({ frames := 0, cells := 0, slots := 0, locals := 0 } : Room) (gPr cls D (tyL kC) [.ref (ad 0), .int x] (fl [(wO kC ad td rn pn an jn tn bm fw gp ga bp fc fj rA rC ft kd aG sR sT wh dY pd cN mN sv nd wr tl lt lT lD gv gn od br)])) (vp_Si (fun r => r = atR gv (-1) x 8)) 0 0 (fun _ => False) := by
  refine Met.ofW (cc := b_O_of) (maxL := 2) (ret := (some .int)) (by decide) rfl ?_
  intro p e s m args below meth c s₁ B hml hv
  obtain ⟨rfl, hP, hK⟩ := hv
  have hx := B.exec
  have hb := B.bytes
  have hr := B.returns
  have hts := atoms_spec (ws := w_O_of) B.pre
  have hown : s.vm.findClass R_O = some m.cls := findClass_of_methodNamed B.named
  have hlocks := B.notSynchronized
  have hl := lv_entry ([.ref (ad 0), .int x]) (n := 2) (Nat.le_of_ble_eq_true rfl)
  rw [lg_entry_eq]
  generalize (lg_sl ([.ref (ad 0), .int x]) ++ List.replicate (2 - (lg_sl ([.ref (ad 0), .int x])).length) Slot.unset).toArray = ls at hl ⊢
  have hl : lv_has ls 2 [(0, .ref (ad 0)), (1, .int x)] := hl
  refine lv_iload_n hx hb d_O_of_0 rfl (lv_at hl 1 rfl) ?_
  refine lv_if_lt (tgt := 19) hx hb d_O_of_1 (by decide) (fun h0 => ?_) (fun h0 => ?_)
  · refine lv_iconst (v := (-1)) hx hb d_O_of_19 (by decide) ?_
    exact W.iret (v := (-1)) hx hb hr (fun t ht hW => ⟨_, rfl, (atR_no (by first | exact inR_ge (by decide) h1 | exact inR_lt h0)).symm, ht⟩) t_nil d_O_of_20
  · refine lv_iload_n hx hb d_O_of_4 rfl (lv_at hl 1 rfl) ?_
    refine lv_bipush (v := nI 8) hx hb d_O_of_5 (by decide +kernel) ?_
    refine lv_icmp_ge (tgt := 19) hx hb d_O_of_7 (by decide) (fun h1 => ?_) (fun h1 => ?_)
    · refine lv_iconst (v := (-1)) hx hb d_O_of_19 (by decide) ?_
      exact W.iret (v := (-1)) hx hb hr (fun t ht hW => ⟨_, rfl, (atR_no (by first | exact inR_ge (by decide) h1 | exact inR_lt h0)).symm, ht⟩) t_nil d_O_of_20
    · obtain ⟨j, hj, rfl⟩ := in_of (by decide) h0 h1
      refine lv_aload_n hx hb d_O_of_10 rfl (lv_at hl 0 rfl) ?_
      refine fv_get (ci := 7) (v := .ref (ad 20)) (C := R_O) (T := F_O) (N := 36) hx hb hts (by decide +kernel) hown hK hP 0 0 rfl rfl rfl 27 (by decide) (hts (.fieldLink R_O 69 "PartShelvesModel" "given" "[I") (by decide +kernel)) (fun _ h9 => h9) rfl d_O_of_11 ?_
      refine lv_iload_n hx hb d_O_of_14 rfl (lv_at hl 1 rfl) ?_
      refine fa_iald hx hb hK hP 0 20 0 rfl rfl rfl (by omega) (by decide) d_O_of_15 ?_
      refine lv_goto (tgt := 20) hx hb d_O_of_16 (by decide) ?_
      exact W.iret (v := gv j) hx hb hr (fun t ht hW => ⟨_, rfl, (atR_nI hj (by decide)).symm, ht⟩) t_nil d_O_of_20

abbrev b_O_worth : ByteArray := prog_9_method_24_code
def y_O_worth : MethodName := ⟨"PartShelvesModel", "worth", "()J"⟩
theorem d_O_worth_0 : decode b_O_worth 0 = .ok (.aload_n 0, 1) := by decide +kernel
theorem d_O_worth_1 : decode b_O_worth 1 = .ok (.getfield 148, 3) := by decide +kernel
theorem d_O_worth_4 : decode b_O_worth 4 = .ok (.ifCond .eq 10, 3) := by decide +kernel
theorem d_O_worth_7 : decode b_O_worth 7 = .ok (.aload_n 0, 1) := by decide +kernel
theorem d_O_worth_8 : decode b_O_worth 8 = .ok (.getfield 144, 3) := by decide +kernel
theorem d_O_worth_11 : decode b_O_worth 11 = .ok (.goto 6, 3) := by decide +kernel
theorem d_O_worth_14 : decode b_O_worth 14 = .ok (.ldc2_w 115, 3) := by decide +kernel
theorem d_O_worth_17 : decode b_O_worth 17 = .ok (.lreturn, 1) := by decide +kernel
def w_O_worth : List Cond := .code y_O_worth b_O_worth 1 (some .long) :: ([.fieldLink "PartShelvesModel" 148 "PartShelvesModel" "isMatched" "Z", .fieldLink "PartShelvesModel" 144 "PartShelvesModel" "foundWorth" "J", .constantLong "PartShelvesModel" 115 (-1)] ++ u_ws R_O F_O 36)
set_option maxHeartbeats 4000000 in
set_option maxRecDepth 100000 in
theorem c_O_worth (l : Launch) (D : va_G) (kC : Nat → ClassId) (ad : Nat → Nat) (td : Nat) (rn : Nat) (pn : Nat) (an : Nat) (jn : Nat) (tn : Nat) (bm : Int32) (fw : Int64) (gp : Nat) (ga : Nat) (bp : Int32) (fc : Int64) (fj : Nat) (rA : Nat → Nat) (rC : Nat → Nat) (ft : Nat → Int32) (kd : Nat → Nat) (aG : Nat → Nat) (sR : Nat → Nat) (sT : Nat → Nat) (wh : Nat → Nat) (dY : Nat → Nat) (pd : Nat → Nat) (cN : Nat → Nat) (mN : Nat → Nat) (sv : Nat → Int32) (nd : Nat → Nat) (wr : Nat → Nat) (tl : Nat → Nat) (lt : Nat → Int32) (lT : Nat → Nat) (lD : Nat → Nat) (gv : Nat → Int32) (gn : Nat → Int64) (od : Nat → Nat) (br : Nat → Nat) : Met l y_O_worth w_O_worth ({ frames := 0, cells := 0, slots := 0, locals := 0 } : Room) (gPr cls D (tyL kC) [.ref (ad 0)] (fl [(wO kC ad td rn pn an jn tn bm fw gp ga bp fc fj rA rC ft kd aG sR sT wh dY pd cN mN sv nd wr tl lt lT lD gv gn od br)])) (vp_Sl (fun r => r = (if bm = 0 then -1 else fw))) 0 0 (fun _ => False) := by
  refine Met.ofW (cc := b_O_worth) (maxL := 1) (ret := (some .long)) (by decide) rfl ?_
  intro p e s m args below meth c s₁ B hml hv
  obtain ⟨rfl, hP, hK⟩ := hv
  have hx := B.exec
  have hb := B.bytes
  have hr := B.returns
  have hts := atoms_spec (ws := w_O_worth) B.pre
  have hown : s.vm.findClass R_O = some m.cls := findClass_of_methodNamed B.named
  have hlocks := B.notSynchronized
  have hl := lv_entry ([.ref (ad 0)]) (n := 1) (Nat.le_of_ble_eq_true rfl)
  rw [lg_entry_eq]
  generalize (lg_sl ([.ref (ad 0)]) ++ List.replicate (1 - (lg_sl ([.ref (ad 0)])).length) Slot.unset).toArray = ls at hl ⊢
  have hl : lv_has ls 1 [(0, .ref (ad 0))] := hl
  refine lv_aload_n hx hb d_O_worth_0 rfl (lv_at hl 0 rfl) ?_
  refine fv_get (ci := 7) (v := .int bm) (C := R_O) (T := F_O) (N := 36) hx hb hts (by decide +kernel) hown hK hP 0 0 rfl rfl rfl 25 (by decide) (hts (.fieldLink R_O 148 "PartShelvesModel" "isMatched" "Z") (by decide +kernel)) (fun _ h9 => h9) rfl d_O_worth_1 ?_
  refine lv_if_eq (tgt := 14) hx hb d_O_worth_4 (by decide) (fun h0 => ?_) (fun h0 => ?_)
  · refine lv_ldc2 (v := (-1)) hx hb hown (hts (.constantLong R_O 115 (-1)) (by decide +kernel)) d_O_worth_14 ?_
    exact W.lret (v := (-1)) hx hb hr (fun t ht hW => ⟨_, rfl, (if_pos h0).symm, ht⟩) t_nil d_O_worth_17
  · refine lv_aload_n hx hb d_O_worth_7 rfl (lv_at hl 0 rfl) ?_
    refine fv_get (ci := 7) (v := .long fw) (C := R_O) (T := F_O) (N := 36) hx hb hts (by decide +kernel) hown hK hP 0 0 rfl rfl rfl 26 (by decide) (hts (.fieldLink R_O 144 "PartShelvesModel" "foundWorth" "J") (by decide +kernel)) (fun _ h9 => h9) rfl d_O_worth_8 ?_
    refine lv_goto (tgt := 17) hx hb d_O_worth_11 (by decide) ?_
    exact W.lret (v := fw) hx hb hr (fun t ht hW => ⟨_, rfl, (if_neg h0).symm, ht⟩) t_nil d_O_worth_17

abbrev b_O_cost : ByteArray := prog_9_method_33_code
def y_O_cost : MethodName := ⟨"PartShelvesModel", "cost", "()J"⟩
theorem d_O_cost_0 : decode b_O_cost 0 = .ok (.aload_n 0, 1) := by decide +kernel
theorem d_O_cost_1 : decode b_O_cost 1 = .ok (.getfield 174, 3) := by decide +kernel
theorem d_O_cost_4 : decode b_O_cost 4 = .ok (.ifCond .eq 10, 3) := by decide +kernel
theorem d_O_cost_7 : decode b_O_cost 7 = .ok (.aload_n 0, 1) := by decide +kernel
theorem d_O_cost_8 : decode b_O_cost 8 = .ok (.getfield 180, 3) := by decide +kernel
theorem d_O_cost_11 : decode b_O_cost 11 = .ok (.goto 6, 3) := by decide +kernel
theorem d_O_cost_14 : decode b_O_cost 14 = .ok (.ldc2_w 115, 3) := by decide +kernel
theorem d_O_cost_17 : decode b_O_cost 17 = .ok (.lreturn, 1) := by decide +kernel
def w_O_cost : List Cond := .code y_O_cost b_O_cost 1 (some .long) :: ([.fieldLink "PartShelvesModel" 174 "PartShelvesModel" "isPlanned" "Z", .fieldLink "PartShelvesModel" 180 "PartShelvesModel" "foundCost" "J", .constantLong "PartShelvesModel" 115 (-1)] ++ u_ws R_O F_O 36)
set_option maxHeartbeats 4000000 in
set_option maxRecDepth 100000 in
theorem c_O_cost (l : Launch) (D : va_G) (kC : Nat → ClassId) (ad : Nat → Nat) (td : Nat) (rn : Nat) (pn : Nat) (an : Nat) (jn : Nat) (tn : Nat) (bm : Int32) (fw : Int64) (gp : Nat) (ga : Nat) (bp : Int32) (fc : Int64) (fj : Nat) (rA : Nat → Nat) (rC : Nat → Nat) (ft : Nat → Int32) (kd : Nat → Nat) (aG : Nat → Nat) (sR : Nat → Nat) (sT : Nat → Nat) (wh : Nat → Nat) (dY : Nat → Nat) (pd : Nat → Nat) (cN : Nat → Nat) (mN : Nat → Nat) (sv : Nat → Int32) (nd : Nat → Nat) (wr : Nat → Nat) (tl : Nat → Nat) (lt : Nat → Int32) (lT : Nat → Nat) (lD : Nat → Nat) (gv : Nat → Int32) (gn : Nat → Int64) (od : Nat → Nat) (br : Nat → Nat) : Met l y_O_cost w_O_cost ({ frames := 0, cells := 0, slots := 0, locals := 0 } : Room) (gPr cls D (tyL kC) [.ref (ad 0)] (fl [(wO kC ad td rn pn an jn tn bm fw gp ga bp fc fj rA rC ft kd aG sR sT wh dY pd cN mN sv nd wr tl lt lT lD gv gn od br)])) (vp_Sl (fun r => r = (if bp = 0 then -1 else fc))) 0 0 (fun _ => False) := by
  refine Met.ofW (cc := b_O_cost) (maxL := 1) (ret := (some .long)) (by decide) rfl ?_
  intro p e s m args below meth c s₁ B hml hv
  obtain ⟨rfl, hP, hK⟩ := hv
  have hx := B.exec
  have hb := B.bytes
  have hr := B.returns
  have hts := atoms_spec (ws := w_O_cost) B.pre
  have hown : s.vm.findClass R_O = some m.cls := findClass_of_methodNamed B.named
  have hlocks := B.notSynchronized
  have hl := lv_entry ([.ref (ad 0)]) (n := 1) (Nat.le_of_ble_eq_true rfl)
  rw [lg_entry_eq]
  generalize (lg_sl ([.ref (ad 0)]) ++ List.replicate (1 - (lg_sl ([.ref (ad 0)])).length) Slot.unset).toArray = ls at hl ⊢
  have hl : lv_has ls 1 [(0, .ref (ad 0))] := hl
  refine lv_aload_n hx hb d_O_cost_0 rfl (lv_at hl 0 rfl) ?_
  refine fv_get (ci := 7) (v := .int bp) (C := R_O) (T := F_O) (N := 36) hx hb hts (by decide +kernel) hown hK hP 0 0 rfl rfl rfl 31 (by decide) (hts (.fieldLink R_O 174 "PartShelvesModel" "isPlanned" "Z") (by decide +kernel)) (fun _ h9 => h9) rfl d_O_cost_1 ?_
  refine lv_if_eq (tgt := 14) hx hb d_O_cost_4 (by decide) (fun h0 => ?_) (fun h0 => ?_)
  · refine lv_ldc2 (v := (-1)) hx hb hown (hts (.constantLong R_O 115 (-1)) (by decide +kernel)) d_O_cost_14 ?_
    exact W.lret (v := (-1)) hx hb hr (fun t ht hW => ⟨_, rfl, (if_pos h0).symm, ht⟩) t_nil d_O_cost_17
  · refine lv_aload_n hx hb d_O_cost_7 rfl (lv_at hl 0 rfl) ?_
    refine fv_get (ci := 7) (v := .long fc) (C := R_O) (T := F_O) (N := 36) hx hb hts (by decide +kernel) hown hK hP 0 0 rfl rfl rfl 32 (by decide) (hts (.fieldLink R_O 180 "PartShelvesModel" "foundCost" "J") (by decide +kernel)) (fun _ h9 => h9) rfl d_O_cost_8 ?_
    refine lv_goto (tgt := 17) hx hb d_O_cost_11 (by decide) ?_
    exact W.lret (v := fc) hx hb hr (fun t ht hW => ⟨_, rfl, (if_neg h0).symm, ht⟩) t_nil d_O_cost_17

abbrev b_O_serve : ByteArray := prog_9_method_26_code
def y_O_serve : MethodName := ⟨"PartShelvesModel", "serve", "(II)I"⟩
theorem d_O_serve_0 : decode b_O_serve 0 = .ok (.aload_n 0, 1) := by decide +kernel
theorem d_O_serve_1 : decode b_O_serve 1 = .ok (.iload_n 1, 1) := by decide +kernel
theorem d_O_serve_2 : decode b_O_serve 2 = .ok (.invokevirtual 123, 3) := by decide +kernel
theorem d_O_serve_5 : decode b_O_serve 5 = .ok (.ifCond .eq 33, 3) := by decide +kernel
theorem d_O_serve_8 : decode b_O_serve 8 = .ok (.iload_n 2, 1) := by decide +kernel
theorem d_O_serve_9 : decode b_O_serve 9 = .ok (.invokestatic 156, 3) := by decide +kernel
theorem d_O_serve_12 : decode b_O_serve 12 = .ok (.ifCond .eq 26, 3) := by decide +kernel
theorem d_O_serve_15 : decode b_O_serve 15 = .ok (.aload_n 0, 1) := by decide +kernel
theorem d_O_serve_16 : decode b_O_serve 16 = .ok (.getfield 69, 3) := by decide +kernel
theorem d_O_serve_19 : decode b_O_serve 19 = .ok (.iload_n 1, 1) := by decide +kernel
theorem d_O_serve_20 : decode b_O_serve 20 = .ok (.iaload, 1) := by decide +kernel
theorem d_O_serve_21 : decode b_O_serve 21 = .ok (.ifCond .lt 17, 3) := by decide +kernel
theorem d_O_serve_24 : decode b_O_serve 24 = .ok (.aload_n 0, 1) := by decide +kernel
theorem d_O_serve_25 : decode b_O_serve 25 = .ok (.aload_n 0, 1) := by decide +kernel
theorem d_O_serve_26 : decode b_O_serve 26 = .ok (.getfield 69, 3) := by decide +kernel
theorem d_O_serve_29 : decode b_O_serve 29 = .ok (.iload_n 1, 1) := by decide +kernel
theorem d_O_serve_30 : decode b_O_serve 30 = .ok (.iaload, 1) := by decide +kernel
theorem d_O_serve_31 : decode b_O_serve 31 = .ok (.iload_n 1, 1) := by decide +kernel
theorem d_O_serve_32 : decode b_O_serve 32 = .ok (.invokevirtual 126, 3) := by decide +kernel
theorem d_O_serve_35 : decode b_O_serve 35 = .ok (.ifCond .ne 5, 3) := by decide +kernel
theorem d_O_serve_38 : decode b_O_serve 38 = .ok (.iconst (-1), 1) := by decide +kernel
theorem d_O_serve_39 : decode b_O_serve 39 = .ok (.ireturn, 1) := by decide +kernel
theorem d_O_serve_40 : decode b_O_serve 40 = .ok (.aload_n 0, 1) := by decide +kernel
theorem d_O_serve_41 : decode b_O_serve 41 = .ok (.getfield 69, 3) := by decide +kernel
theorem d_O_serve_44 : decode b_O_serve 44 = .ok (.iload_n 1, 1) := by decide +kernel
theorem d_O_serve_45 : decode b_O_serve 45 = .ok (.iaload, 1) := by decide +kernel
theorem d_O_serve_46 : decode b_O_serve 46 = .ok (.istore_n 3, 1) := by decide +kernel
theorem d_O_serve_47 : decode b_O_serve 47 = .ok (.aload_n 0, 1) := by decide +kernel
theorem d_O_serve_48 : decode b_O_serve 48 = .ok (.getfield 30, 3) := by decide +kernel
theorem d_O_serve_51 : decode b_O_serve 51 = .ok (.iload_n 3, 1) := by decide +kernel
theorem d_O_serve_52 : decode b_O_serve 52 = .ok (.iconst 2, 1) := by decide +kernel
theorem d_O_serve_53 : decode b_O_serve 53 = .ok (.iastore, 1) := by decide +kernel
theorem d_O_serve_54 : decode b_O_serve 54 = .ok (.aload_n 0, 1) := by decide +kernel
theorem d_O_serve_55 : decode b_O_serve 55 = .ok (.getfield 33, 3) := by decide +kernel
theorem d_O_serve_58 : decode b_O_serve 58 = .ok (.iload_n 3, 1) := by decide +kernel
theorem d_O_serve_59 : decode b_O_serve 59 = .ok (.iload_n 2, 1) := by decide +kernel
theorem d_O_serve_60 : decode b_O_serve 60 = .ok (.iastore, 1) := by decide +kernel
theorem d_O_serve_61 : decode b_O_serve 61 = .ok (.aload_n 0, 1) := by decide +kernel
theorem d_O_serve_62 : decode b_O_serve 62 = .ok (.getfield 36, 3) := by decide +kernel
theorem d_O_serve_65 : decode b_O_serve 65 = .ok (.iload_n 3, 1) := by decide +kernel
theorem d_O_serve_66 : decode b_O_serve 66 = .ok (.aload_n 0, 1) := by decide +kernel
theorem d_O_serve_67 : decode b_O_serve 67 = .ok (.getfield 88, 3) := by decide +kernel
theorem d_O_serve_70 : decode b_O_serve 70 = .ok (.iastore, 1) := by decide +kernel
theorem d_O_serve_71 : decode b_O_serve 71 = .ok (.aload_n 0, 1) := by decide +kernel
theorem d_O_serve_72 : decode b_O_serve 72 = .ok (.getfield 48, 3) := by decide +kernel
theorem d_O_serve_75 : decode b_O_serve 75 = .ok (.iload_n 1, 1) := by decide +kernel
theorem d_O_serve_76 : decode b_O_serve 76 = .ok (.iconst 1, 1) := by decide +kernel
theorem d_O_serve_77 : decode b_O_serve 77 = .ok (.bastore, 1) := by decide +kernel
theorem d_O_serve_78 : decode b_O_serve 78 = .ok (.iload_n 3, 1) := by decide +kernel
theorem d_O_serve_79 : decode b_O_serve 79 = .ok (.ireturn, 1) := by decide +kernel
def w_O_serve : List Cond := .code y_O_serve b_O_serve 4 (some .int) :: ([.methodLink "PartShelvesModel" 123 ⟨"PartShelvesModel", "isOpen", "(I)Z"⟩, .instanceMethod ⟨"PartShelvesModel", "isOpen", "(I)Z"⟩, .selects "PartShelvesModel" ⟨"PartShelvesModel", "isOpen", "(I)Z"⟩ ⟨"PartShelvesModel", "isOpen", "(I)Z"⟩, .initialized "PartShelvesModel", .code ⟨"PartShelvesModel", "isOpen", "(I)Z"⟩ prog_9_method_7_code 2 (some .boolean), .fieldLink "PartShelvesModel" 85 "PartShelvesModel" "asks" "I", .fieldLink "PartShelvesModel" 48 "PartShelvesModel" "served" "[Z", .methodLink "PartShelvesModel" 156 ⟨"PartShelvesModel", "isPerson", "(I)Z"⟩, .static ⟨"PartShelvesModel", "isPerson", "(I)Z"⟩, .code ⟨"PartShelvesModel", "isPerson", "(I)Z"⟩ prog_9_method_5_code 1 (some .boolean), .fieldLink "PartShelvesModel" 69 "PartShelvesModel" "given" "[I", .methodLink "PartShelvesModel" 126 ⟨"PartShelvesModel", "isPair", "(II)Z"⟩, .instanceMethod ⟨"PartShelvesModel", "isPair", "(II)Z"⟩, .selects "PartShelvesModel" ⟨"PartShelvesModel", "isPair", "(II)Z"⟩ ⟨"PartShelvesModel", "isPair", "(II)Z"⟩, .code ⟨"PartShelvesModel", "isPair", "(II)Z"⟩ prog_9_method_18_code 4 (some .boolean), .methodLink "PartShelvesModel" 117 ⟨"PartShelvesModel", "stateOf", "(I)I"⟩, .instanceMethod ⟨"PartShelvesModel", "stateOf", "(I)I"⟩, .selects "PartShelvesModel" ⟨"PartShelvesModel", "stateOf", "(I)I"⟩ ⟨"PartShelvesModel", "stateOf", "(I)I"⟩, .code ⟨"PartShelvesModel", "stateOf", "(I)I"⟩ prog_9_method_14_code 2 (some .int), .fieldLink "PartShelvesModel" 30 "PartShelvesModel" "states" "[I", .fieldLink "PartShelvesModel" 36 "PartShelvesModel" "days" "[I", .fieldLink "PartShelvesModel" 88 "PartShelvesModel" "today" "I", .fieldLink "PartShelvesModel" 33 "PartShelvesModel" "whose" "[I", .fieldLink "PartShelvesModel" 17 "PartShelvesModel" "fits" "[Z", .fieldLink "PartShelvesModel" 21 "PartShelvesModel" "kinds" "[I", .fieldLink "PartShelvesModel" 39 "PartShelvesModel" "products" "[I", .fieldLink "PartShelvesModel" 42 "PartShelvesModel" "cents" "[J", .methodLink "PartShelvesModel" 111 ⟨"PartShelvesModel", "priceOf", "(I)J"⟩, .instanceMethod ⟨"PartShelvesModel", "priceOf", "(I)J"⟩, .selects "PartShelvesModel" ⟨"PartShelvesModel", "priceOf", "(I)J"⟩ ⟨"PartShelvesModel", "priceOf", "(I)J"⟩, .code ⟨"PartShelvesModel", "priceOf", "(I)J"⟩ prog_9_method_12_code 5 (some .long), .fieldLink "PartShelvesModel" 97 "PartShelvesModel" "rows" "I", .fieldLink "PartShelvesModel" 7 "PartShelvesModel" "rowAges" "[I", .fieldLink "PartShelvesModel" 24 "PartShelvesModel" "ages" "[I", .fieldLink "PartShelvesModel" 13 "PartShelvesModel" "rowCents" "[J"] ++ u_ws R_O F_O 36)
set_option maxRecDepth 20000 in
theorem g_O_serve_isOpen : GoodIn w_O_serve (wsV R_O 123 R_O y_O_isOpen w_O_isOpen) := goodIn_p _ [5] rfl (by decide +kernel)
set_option maxRecDepth 20000 in
theorem g_O_serve_isPerson : GoodIn w_O_serve (wsS R_O 156 y_O_isPerson w_O_isPerson) := goodIn_p _ [10] rfl (by decide +kernel)
set_option maxRecDepth 20000 in
theorem g_O_serve_isPair : GoodIn w_O_serve (wsV R_O 126 R_O y_O_isPair w_O_isPair) := goodIn_p _ [15, 19, 5, 31] rfl (by decide +kernel)
set_option maxHeartbeats 4000000 in
set_option maxRecDepth 100000 in
theorem c_O_serve (l : Launch) (D : va_G) (kC : Nat → ClassId) (ad : Nat → Nat) (td : Nat) (rn : Nat) (pn : Nat) (an : Nat) (jn : Nat) (tn : Nat) (bm : Int32) (fw : Int64) (gp : Nat) (ga : Nat) (bp : Int32) (fc : Int64) (fj : Nat) (rA : Nat → Nat) (rC : Nat → Nat) (ft : Nat → Int32) (kd : Nat → Nat) (aG : Nat → Nat) (sR : Nat → Nat) (sT : Nat → Nat) (wh : Nat → Nat) (dY : Nat → Nat) (pd : Nat → Nat) (cN : Nat → Nat) (mN : Nat → Nat) (sv : Nat → Int32) (nd : Nat → Nat) (wr : Nat → Nat) (tl : Nat → Nat) (lt : Nat → Int32) (lT : Nat → Nat) (lD : Nat → Nat) (gv : Nat → Int32) (gn : Nat → Int64) (od : Nat → Nat) (br : Nat → Nat) (x : Int32) (y : Int32) (sz : Nat) (han : an ≤ 8) (hgv : ∀ j, gv j = -1 ∨ ∃ k, k < 8 ∧ gv j = nI k) (hsT : ∀ j, sT j ≤ 3) (hdY : ∀ j, dY j ≤ 100000) (htd : td ≤ 100000) (hrn : rn ≤ 6) (hrA : ∀ j, rA j ≤ 1000) (haG : ∀ j, aG j ≤ 1000) (hkd : ∀ j, kd j < 6) (hpd : ∀ j, pd j < 6) (hcN : ∀ j, cN j ≤ 1000000) (hrC : ∀ j, rC j ≤ 100000) (hwh : ∀ j, wh j < 10) : Met l y_O_serve w_O_serve ({ frames := 2, cells := 0, slots := 0, locals := 47 } : Room) (gPre cls D (tyL kC) [.ref (ad 0), .int x, .int y] (fl [(wO kC ad td rn pn an jn tn bm fw gp ga bp fc fj rA rC ft kd aG sR sT wh dY pd cN mN sv nd wr tl lt lT lD gv gn od br)]) sz) (gQi cls D (tyL kC) (fl [(wO kC ad td rn pn an jn tn bm fw gp ga bp fc fj rA rC ft kd aG sR sT wh dY pd cN mN sv nd wr tl lt lT lD gv gn od br)]) sz (if (opn sv an x ∧ inR y 10 ∧ ¬ gv (nOf x) < 0 ∧ prsO td rn an rA rC ft kd aG sT wh dY pd cN sv (nOf (gv (nOf x))) (nOf x)) then gv (nOf x) else -1) (fl [(wO kC ad td rn pn an jn tn bm fw gp ga bp fc fj rA rC ft kd aG sR (if (opn sv an x ∧ inR y 10 ∧ ¬ gv (nOf x) < 0 ∧ prsO td rn an rA rC ft kd aG sT wh dY pd cN sv (nOf (gv (nOf x))) (nOf x)) then updN sT (nOf (gv (nOf x))) 2 else sT) (if (opn sv an x ∧ inR y 10 ∧ ¬ gv (nOf x) < 0 ∧ prsO td rn an rA rC ft kd aG sT wh dY pd cN sv (nOf (gv (nOf x))) (nOf x)) then updN wh (nOf (gv (nOf x))) (nOf y) else wh) (if (opn sv an x ∧ inR y 10 ∧ ¬ gv (nOf x) < 0 ∧ prsO td rn an rA rC ft kd aG sT wh dY pd cN sv (nOf (gv (nOf x))) (nOf x)) then updN dY (nOf (gv (nOf x))) td else dY) pd cN mN (if (opn sv an x ∧ inR y 10 ∧ ¬ gv (nOf x) < 0 ∧ prsO td rn an rA rC ft kd aG sT wh dY pd cN sv (nOf (gv (nOf x))) (nOf x)) then upd sv (nOf x) (nI 1) else sv) nd wr tl lt lT lD gv gn od br)])) 0 0 (va_A (fl [(wO kC ad td rn pn an jn tn bm fw gp ga bp fc fj rA rC ft kd aG sR sT wh dY pd cN mN sv nd wr tl lt lT lD gv gn od br)]) sz) := by
  refine Met.ofW (cc := b_O_serve) (maxL := 4) (ret := (some .int)) (by decide) rfl ?_
  intro p e s m args below meth c s₁ B hml hv
  obtain ⟨rfl, hsz, hP, hK, hD0⟩ := hv
  have hx := B.exec
  have hb := B.bytes
  have hr := B.returns
  have hts := atoms_spec (ws := w_O_serve) B.pre
  have hown : s.vm.findClass R_O = some m.cls := findClass_of_methodNamed B.named
  have hlocks := B.notSynchronized
  subst hsz
  obtain ⟨A, hAe⟩ : ∃ A : Nat → Prop, A = va_A (fl [(wO kC ad td rn pn an jn tn bm fw gp ga bp fc fj rA rC ft kd aG sR sT wh dY pd cN mN sv nd wr tl lt lT lD gv gn od br)]) s.heap.size := ⟨_, rfl⟩
  have hD : va_D A (fl [(wO kC ad td rn pn an jn tn bm fw gp ga bp fc fj rA rC ft kd aG sR sT wh dY pd cN mN sv nd wr tl lt lT lD gv gn od br)]) := by rw [hAe]; exact hD0.self
  have hA : ∀ q : Nat, s.heap.size ≤ q → A q := fun q h => by rw [hAe]; exact Or.inr h
  have hS : va_S A s.heap s.heap [] := va_S.rf
  have hl := lv_entry ([.ref (ad 0), .int x, .int y]) (n := 4) (Nat.le_of_ble_eq_true rfl)
  rw [lg_entry_eq]
  generalize (lg_sl ([.ref (ad 0), .int x, .int y]) ++ List.replicate (4 - (lg_sl ([.ref (ad 0), .int x, .int y])).length) Slot.unset).toArray = ls at hl ⊢
  have hl : lv_has ls 4 [(0, .ref (ad 0)), (1, .int x), (2, .int y)] := hl
  refine lv_aload_n hx hb d_O_serve_0 rfl (lv_at hl 0 rfl) ?_
  refine lv_iload_n hx hb d_O_serve_1 rfl (lv_at hl 1 rfl) ?_
  refine r_calli (W.runV (As := [.int x]) (rest := []) ⟨hx, hb, hml, hown, hts⟩ (c_O_isOpen l D kC ad td rn pn an jn tn bm fw gp ga bp fc fj rA rC ft kd aG sR sT wh dY pd cN mN sv nd wr tl lt lT lD gv gn od br x (han)) (cwV 1 hts g_O_serve_isOpen rfl rfl rfl (by decide +kernel) ⟨Nat.le_of_ble_eq_true rfl, Nat.le_of_ble_eq_true rfl⟩) (r_preV (f_recv (ci := 7) (q0 := 0) hK hP 0 rfl rfl rfl) hK hP) rfl rfl hl.1 rfl (lv_room (Nat.le_of_ble_eq_true rfl)) d_O_serve_2 ⟨Nat.le_of_ble_eq_true rfl, Nat.le_of_ble_eq_true rfl⟩) ?_
  refine lv_if_eq (tgt := 38) hx hb d_O_serve_5 (by decide) (fun h1 => ?_) (fun h1 => ?_)
  · have hC : ¬ (opn sv an x ∧ inR y 10 ∧ ¬ gv (nOf x) < 0 ∧ prsO td rn an rA rC ft kd aG sT wh dY pd cN sv (nOf (gv (nOf x))) (nOf x)) := fun q => by first | (have q4 := q.2.2.2; rw [nOf_nI (by omega), ek, nOf_nI (by omega)] at q4; exact bI_0.mp h4 q4) | (have q3 := q.2.2.1; rw [nOf_nI (by omega)] at q3; exact q3 h3) | exact bI_0.mp h2 q.2.1 | exact bI_0.mp h1 q.1
    refine lv_iconst (v := (-1)) hx hb d_O_serve_38 (by decide) ?_
    have ew1 : sT = (if (opn sv an x ∧ inR y 10 ∧ ¬ gv (nOf x) < 0 ∧ prsO td rn an rA rC ft kd aG sT wh dY pd cN sv (nOf (gv (nOf x))) (nOf x)) then updN sT (nOf (gv (nOf x))) 2 else sT) := (if_neg hC).symm
    have hP : va_P D cls (fl [(wO kC ad td rn pn an jn tn bm fw gp ga bp fc fj rA rC ft kd aG sR (if (opn sv an x ∧ inR y 10 ∧ ¬ gv (nOf x) < 0 ∧ prsO td rn an rA rC ft kd aG sT wh dY pd cN sv (nOf (gv (nOf x))) (nOf x)) then updN sT (nOf (gv (nOf x))) 2 else sT) wh dY pd cN mN sv nd wr tl lt lT lD gv gn od br)]) s.heap := by rw [← ew1]; exact hP
    have hD : va_D A (fl [(wO kC ad td rn pn an jn tn bm fw gp ga bp fc fj rA rC ft kd aG sR (if (opn sv an x ∧ inR y 10 ∧ ¬ gv (nOf x) < 0 ∧ prsO td rn an rA rC ft kd aG sT wh dY pd cN sv (nOf (gv (nOf x))) (nOf x)) then updN sT (nOf (gv (nOf x))) 2 else sT) wh dY pd cN mN sv nd wr tl lt lT lD gv gn od br)]) := by rw [← ew1]; exact hD
    have ew2 : wh = (if (opn sv an x ∧ inR y 10 ∧ ¬ gv (nOf x) < 0 ∧ prsO td rn an rA rC ft kd aG sT wh dY pd cN sv (nOf (gv (nOf x))) (nOf x)) then updN wh (nOf (gv (nOf x))) (nOf y) else wh) := (if_neg hC).symm
    have hP : va_P D cls (fl [(wO kC ad td rn pn an jn tn bm fw gp ga bp fc fj rA rC ft kd aG sR (if (opn sv an x ∧ inR y 10 ∧ ¬ gv (nOf x) < 0 ∧ prsO td rn an rA rC ft kd aG sT wh dY pd cN sv (nOf (gv (nOf x))) (nOf x)) then updN sT (nOf (gv (nOf x))) 2 else sT) (if (opn sv an x ∧ inR y 10 ∧ ¬ gv (nOf x) < 0 ∧ prsO td rn an rA rC ft kd aG sT wh dY pd cN sv (nOf (gv (nOf x))) (nOf x)) then updN wh (nOf (gv (nOf x))) (nOf y) else wh) dY pd cN mN sv nd wr tl lt lT lD gv gn od br)]) s.heap := by rw [← ew2]; exact hP
    have hD : va_D A (fl [(wO kC ad td rn pn an jn tn bm fw gp ga bp fc fj rA rC ft kd aG sR (if (opn sv an x ∧ inR y 10 ∧ ¬ gv (nOf x) < 0 ∧ prsO td rn an rA rC ft kd aG sT wh dY pd cN sv (nOf (gv (nOf x))) (nOf x)) then updN sT (nOf (gv (nOf x))) 2 else sT) (if (opn sv an x ∧ inR y 10 ∧ ¬ gv (nOf x) < 0 ∧ prsO td rn an rA rC ft kd aG sT wh dY pd cN sv (nOf (gv (nOf x))) (nOf x)) then updN wh (nOf (gv (nOf x))) (nOf y) else wh) dY pd cN mN sv nd wr tl lt lT lD gv gn od br)]) := by rw [← ew2]; exact hD
    have ew3 : dY = (if (opn sv an x ∧ inR y 10 ∧ ¬ gv (nOf x) < 0 ∧ prsO td rn an rA rC ft kd aG sT wh dY pd cN sv (nOf (gv (nOf x))) (nOf x)) then updN dY (nOf (gv (nOf x))) td else dY) := (if_neg hC).symm
    have hP : va_P D cls (fl [(wO kC ad td rn pn an jn tn bm fw gp ga bp fc fj rA rC ft kd aG sR (if (opn sv an x ∧ inR y 10 ∧ ¬ gv (nOf x) < 0 ∧ prsO td rn an rA rC ft kd aG sT wh dY pd cN sv (nOf (gv (nOf x))) (nOf x)) then updN sT (nOf (gv (nOf x))) 2 else sT) (if (opn sv an x ∧ inR y 10 ∧ ¬ gv (nOf x) < 0 ∧ prsO td rn an rA rC ft kd aG sT wh dY pd cN sv (nOf (gv (nOf x))) (nOf x)) then updN wh (nOf (gv (nOf x))) (nOf y) else wh) (if (opn sv an x ∧ inR y 10 ∧ ¬ gv (nOf x) < 0 ∧ prsO td rn an rA rC ft kd aG sT wh dY pd cN sv (nOf (gv (nOf x))) (nOf x)) then updN dY (nOf (gv (nOf x))) td else dY) pd cN mN sv nd wr tl lt lT lD gv gn od br)]) s.heap := by rw [← ew3]; exact hP
    have hD : va_D A (fl [(wO kC ad td rn pn an jn tn bm fw gp ga bp fc fj rA rC ft kd aG sR (if (opn sv an x ∧ inR y 10 ∧ ¬ gv (nOf x) < 0 ∧ prsO td rn an rA rC ft kd aG sT wh dY pd cN sv (nOf (gv (nOf x))) (nOf x)) then updN sT (nOf (gv (nOf x))) 2 else sT) (if (opn sv an x ∧ inR y 10 ∧ ¬ gv (nOf x) < 0 ∧ prsO td rn an rA rC ft kd aG sT wh dY pd cN sv (nOf (gv (nOf x))) (nOf x)) then updN wh (nOf (gv (nOf x))) (nOf y) else wh) (if (opn sv an x ∧ inR y 10 ∧ ¬ gv (nOf x) < 0 ∧ prsO td rn an rA rC ft kd aG sT wh dY pd cN sv (nOf (gv (nOf x))) (nOf x)) then updN dY (nOf (gv (nOf x))) td else dY) pd cN mN sv nd wr tl lt lT lD gv gn od br)]) := by rw [← ew3]; exact hD
    have ew4 : sv = (if (opn sv an x ∧ inR y 10 ∧ ¬ gv (nOf x) < 0 ∧ prsO td rn an rA rC ft kd aG sT wh dY pd cN sv (nOf (gv (nOf x))) (nOf x)) then upd sv (nOf x) (nI 1) else sv) := (if_neg hC).symm
    have hP : va_P D cls (fl [(wO kC ad td rn pn an jn tn bm fw gp ga bp fc fj rA rC ft kd aG sR (if (opn sv an x ∧ inR y 10 ∧ ¬ gv (nOf x) < 0 ∧ prsO td rn an rA rC ft kd aG sT wh dY pd cN sv (nOf (gv (nOf x))) (nOf x)) then updN sT (nOf (gv (nOf x))) 2 else sT) (if (opn sv an x ∧ inR y 10 ∧ ¬ gv (nOf x) < 0 ∧ prsO td rn an rA rC ft kd aG sT wh dY pd cN sv (nOf (gv (nOf x))) (nOf x)) then updN wh (nOf (gv (nOf x))) (nOf y) else wh) (if (opn sv an x ∧ inR y 10 ∧ ¬ gv (nOf x) < 0 ∧ prsO td rn an rA rC ft kd aG sT wh dY pd cN sv (nOf (gv (nOf x))) (nOf x)) then updN dY (nOf (gv (nOf x))) td else dY) pd cN mN (if (opn sv an x ∧ inR y 10 ∧ ¬ gv (nOf x) < 0 ∧ prsO td rn an rA rC ft kd aG sT wh dY pd cN sv (nOf (gv (nOf x))) (nOf x)) then upd sv (nOf x) (nI 1) else sv) nd wr tl lt lT lD gv gn od br)]) s.heap := by rw [← ew4]; exact hP
    have hD : va_D A (fl [(wO kC ad td rn pn an jn tn bm fw gp ga bp fc fj rA rC ft kd aG sR (if (opn sv an x ∧ inR y 10 ∧ ¬ gv (nOf x) < 0 ∧ prsO td rn an rA rC ft kd aG sT wh dY pd cN sv (nOf (gv (nOf x))) (nOf x)) then updN sT (nOf (gv (nOf x))) 2 else sT) (if (opn sv an x ∧ inR y 10 ∧ ¬ gv (nOf x) < 0 ∧ prsO td rn an rA rC ft kd aG sT wh dY pd cN sv (nOf (gv (nOf x))) (nOf x)) then updN wh (nOf (gv (nOf x))) (nOf y) else wh) (if (opn sv an x ∧ inR y 10 ∧ ¬ gv (nOf x) < 0 ∧ prsO td rn an rA rC ft kd aG sT wh dY pd cN sv (nOf (gv (nOf x))) (nOf x)) then updN dY (nOf (gv (nOf x))) td else dY) pd cN mN (if (opn sv an x ∧ inR y 10 ∧ ¬ gv (nOf x) < 0 ∧ prsO td rn an rA rC ft kd aG sT wh dY pd cN sv (nOf (gv (nOf x))) (nOf x)) then upd sv (nOf x) (nI 1) else sv) nd wr tl lt lT lD gv gn od br)]) := by rw [← ew4]; exact hD
    exact W.iret (v := (-1)) hx hb hr (fun t ht hW => by subst hAe; exact ⟨⟨(-1), (), rfl, (if_neg hC).symm, by rw [ht]; exact hP, va_K.moved hW.alike hK, hD⟩, hS.F ht⟩) (by subst hAe; exact hS.2.2) d_O_serve_39
  · have h1 := bI_n0.mp h1
    obtain ⟨j, hj, rfl⟩ := inR_n (by omega) h1.1
    refine lv_iload_n hx hb d_O_serve_8 rfl (lv_at hl 2 rfl) ?_
    refine r_calli (W.runS (As := [.int y]) (rest := []) ⟨hx, hb, hml, hown, hts⟩ (c_O_isPerson l y) (cwS 1 hts g_O_serve_isPerson rfl rfl rfl (by decide +kernel) ⟨Nat.le_of_ble_eq_true rfl, Nat.le_of_ble_eq_true rfl⟩) p0_preS rfl rfl hl.1 rfl (lv_room (Nat.le_of_ble_eq_true rfl)) d_O_serve_9 ⟨Nat.le_of_ble_eq_true rfl, Nat.le_of_ble_eq_true rfl⟩) ?_
    refine lv_if_eq (tgt := 38) hx hb d_O_serve_12 (by decide) (fun h2 => ?_) (fun h2 => ?_)
    · have hC : ¬ (opn sv an (nI j) ∧ inR y 10 ∧ ¬ gv (nOf (nI j)) < 0 ∧ prsO td rn an rA rC ft kd aG sT wh dY pd cN sv (nOf (gv (nOf (nI j)))) (nOf (nI j))) := fun q => by first | (have q4 := q.2.2.2; rw [nOf_nI (by omega), ek, nOf_nI (by omega)] at q4; exact bI_0.mp h4 q4) | (have q3 := q.2.2.1; rw [nOf_nI (by omega)] at q3; exact q3 h3) | exact bI_0.mp h2 q.2.1 | exact bI_0.mp h1 q.1
      refine lv_iconst (v := (-1)) hx hb d_O_serve_38 (by decide) ?_
      have ew5 : sT = (if (opn sv an (nI j) ∧ inR y 10 ∧ ¬ gv (nOf (nI j)) < 0 ∧ prsO td rn an rA rC ft kd aG sT wh dY pd cN sv (nOf (gv (nOf (nI j)))) (nOf (nI j))) then updN sT (nOf (gv (nOf (nI j)))) 2 else sT) := (if_neg hC).symm
      have hP : va_P D cls (fl [(wO kC ad td rn pn an jn tn bm fw gp ga bp fc fj rA rC ft kd aG sR (if (opn sv an (nI j) ∧ inR y 10 ∧ ¬ gv (nOf (nI j)) < 0 ∧ prsO td rn an rA rC ft kd aG sT wh dY pd cN sv (nOf (gv (nOf (nI j)))) (nOf (nI j))) then updN sT (nOf (gv (nOf (nI j)))) 2 else sT) wh dY pd cN mN sv nd wr tl lt lT lD gv gn od br)]) s.heap := by rw [← ew5]; exact hP
      have hD : va_D A (fl [(wO kC ad td rn pn an jn tn bm fw gp ga bp fc fj rA rC ft kd aG sR (if (opn sv an (nI j) ∧ inR y 10 ∧ ¬ gv (nOf (nI j)) < 0 ∧ prsO td rn an rA rC ft kd aG sT wh dY pd cN sv (nOf (gv (nOf (nI j)))) (nOf (nI j))) then updN sT (nOf (gv (nOf (nI j)))) 2 else sT) wh dY pd cN mN sv nd wr tl lt lT lD gv gn od br)]) := by rw [← ew5]; exact hD
      have ew6 : wh = (if (opn sv an (nI j) ∧ inR y 10 ∧ ¬ gv (nOf (nI j)) < 0 ∧ prsO td rn an rA rC ft kd aG sT wh dY pd cN sv (nOf (gv (nOf (nI j)))) (nOf (nI j))) then updN wh (nOf (gv (nOf (nI j)))) (nOf y) else wh) := (if_neg hC).symm
      have hP : va_P D cls (fl [(wO kC ad td rn pn an jn tn bm fw gp ga bp fc fj rA rC ft kd aG sR (if (opn sv an (nI j) ∧ inR y 10 ∧ ¬ gv (nOf (nI j)) < 0 ∧ prsO td rn an rA rC ft kd aG sT wh dY pd cN sv (nOf (gv (nOf (nI j)))) (nOf (nI j))) then updN sT (nOf (gv (nOf (nI j)))) 2 else sT) (if (opn sv an (nI j) ∧ inR y 10 ∧ ¬ gv (nOf (nI j)) < 0 ∧ prsO td rn an rA rC ft kd aG sT wh dY pd cN sv (nOf (gv (nOf (nI j)))) (nOf (nI j))) then updN wh (nOf (gv (nOf (nI j)))) (nOf y) else wh) dY pd cN mN sv nd wr tl lt lT lD gv gn od br)]) s.heap := by rw [← ew6]; exact hP
      have hD : va_D A (fl [(wO kC ad td rn pn an jn tn bm fw gp ga bp fc fj rA rC ft kd aG sR (if (opn sv an (nI j) ∧ inR y 10 ∧ ¬ gv (nOf (nI j)) < 0 ∧ prsO td rn an rA rC ft kd aG sT wh dY pd cN sv (nOf (gv (nOf (nI j)))) (nOf (nI j))) then updN sT (nOf (gv (nOf (nI j)))) 2 else sT) (if (opn sv an (nI j) ∧ inR y 10 ∧ ¬ gv (nOf (nI j)) < 0 ∧ prsO td rn an rA rC ft kd aG sT wh dY pd cN sv (nOf (gv (nOf (nI j)))) (nOf (nI j))) then updN wh (nOf (gv (nOf (nI j)))) (nOf y) else wh) dY pd cN mN sv nd wr tl lt lT lD gv gn od br)]) := by rw [← ew6]; exact hD
      have ew7 : dY = (if (opn sv an (nI j) ∧ inR y 10 ∧ ¬ gv (nOf (nI j)) < 0 ∧ prsO td rn an rA rC ft kd aG sT wh dY pd cN sv (nOf (gv (nOf (nI j)))) (nOf (nI j))) then updN dY (nOf (gv (nOf (nI j)))) td else dY) := (if_neg hC).symm
      have hP : va_P D cls (fl [(wO kC ad td rn pn an jn tn bm fw gp ga bp fc fj rA rC ft kd aG sR (if (opn sv an (nI j) ∧ inR y 10 ∧ ¬ gv (nOf (nI j)) < 0 ∧ prsO td rn an rA rC ft kd aG sT wh dY pd cN sv (nOf (gv (nOf (nI j)))) (nOf (nI j))) then updN sT (nOf (gv (nOf (nI j)))) 2 else sT) (if (opn sv an (nI j) ∧ inR y 10 ∧ ¬ gv (nOf (nI j)) < 0 ∧ prsO td rn an rA rC ft kd aG sT wh dY pd cN sv (nOf (gv (nOf (nI j)))) (nOf (nI j))) then updN wh (nOf (gv (nOf (nI j)))) (nOf y) else wh) (if (opn sv an (nI j) ∧ inR y 10 ∧ ¬ gv (nOf (nI j)) < 0 ∧ prsO td rn an rA rC ft kd aG sT wh dY pd cN sv (nOf (gv (nOf (nI j)))) (nOf (nI j))) then updN dY (nOf (gv (nOf (nI j)))) td else dY) pd cN mN sv nd wr tl lt lT lD gv gn od br)]) s.heap := by rw [← ew7]; exact hP
      have hD : va_D A (fl [(wO kC ad td rn pn an jn tn bm fw gp ga bp fc fj rA rC ft kd aG sR (if (opn sv an (nI j) ∧ inR y 10 ∧ ¬ gv (nOf (nI j)) < 0 ∧ prsO td rn an rA rC ft kd aG sT wh dY pd cN sv (nOf (gv (nOf (nI j)))) (nOf (nI j))) then updN sT (nOf (gv (nOf (nI j)))) 2 else sT) (if (opn sv an (nI j) ∧ inR y 10 ∧ ¬ gv (nOf (nI j)) < 0 ∧ prsO td rn an rA rC ft kd aG sT wh dY pd cN sv (nOf (gv (nOf (nI j)))) (nOf (nI j))) then updN wh (nOf (gv (nOf (nI j)))) (nOf y) else wh) (if (opn sv an (nI j) ∧ inR y 10 ∧ ¬ gv (nOf (nI j)) < 0 ∧ prsO td rn an rA rC ft kd aG sT wh dY pd cN sv (nOf (gv (nOf (nI j)))) (nOf (nI j))) then updN dY (nOf (gv (nOf (nI j)))) td else dY) pd cN mN sv nd wr tl lt lT lD gv gn od br)]) := by rw [← ew7]; exact hD
      have ew8 : sv = (if (opn sv an (nI j) ∧ inR y 10 ∧ ¬ gv (nOf (nI j)) < 0 ∧ prsO td rn an rA rC ft kd aG sT wh dY pd cN sv (nOf (gv (nOf (nI j)))) (nOf (nI j))) then upd sv (nOf (nI j)) (nI 1) else sv) := (if_neg hC).symm
      have hP : va_P D cls (fl [(wO kC ad td rn pn an jn tn bm fw gp ga bp fc fj rA rC ft kd aG sR (if (opn sv an (nI j) ∧ inR y 10 ∧ ¬ gv (nOf (nI j)) < 0 ∧ prsO td rn an rA rC ft kd aG sT wh dY pd cN sv (nOf (gv (nOf (nI j)))) (nOf (nI j))) then updN sT (nOf (gv (nOf (nI j)))) 2 else sT) (if (opn sv an (nI j) ∧ inR y 10 ∧ ¬ gv (nOf (nI j)) < 0 ∧ prsO td rn an rA rC ft kd aG sT wh dY pd cN sv (nOf (gv (nOf (nI j)))) (nOf (nI j))) then updN wh (nOf (gv (nOf (nI j)))) (nOf y) else wh) (if (opn sv an (nI j) ∧ inR y 10 ∧ ¬ gv (nOf (nI j)) < 0 ∧ prsO td rn an rA rC ft kd aG sT wh dY pd cN sv (nOf (gv (nOf (nI j)))) (nOf (nI j))) then updN dY (nOf (gv (nOf (nI j)))) td else dY) pd cN mN (if (opn sv an (nI j) ∧ inR y 10 ∧ ¬ gv (nOf (nI j)) < 0 ∧ prsO td rn an rA rC ft kd aG sT wh dY pd cN sv (nOf (gv (nOf (nI j)))) (nOf (nI j))) then upd sv (nOf (nI j)) (nI 1) else sv) nd wr tl lt lT lD gv gn od br)]) s.heap := by rw [← ew8]; exact hP
      have hD : va_D A (fl [(wO kC ad td rn pn an jn tn bm fw gp ga bp fc fj rA rC ft kd aG sR (if (opn sv an (nI j) ∧ inR y 10 ∧ ¬ gv (nOf (nI j)) < 0 ∧ prsO td rn an rA rC ft kd aG sT wh dY pd cN sv (nOf (gv (nOf (nI j)))) (nOf (nI j))) then updN sT (nOf (gv (nOf (nI j)))) 2 else sT) (if (opn sv an (nI j) ∧ inR y 10 ∧ ¬ gv (nOf (nI j)) < 0 ∧ prsO td rn an rA rC ft kd aG sT wh dY pd cN sv (nOf (gv (nOf (nI j)))) (nOf (nI j))) then updN wh (nOf (gv (nOf (nI j)))) (nOf y) else wh) (if (opn sv an (nI j) ∧ inR y 10 ∧ ¬ gv (nOf (nI j)) < 0 ∧ prsO td rn an rA rC ft kd aG sT wh dY pd cN sv (nOf (gv (nOf (nI j)))) (nOf (nI j))) then updN dY (nOf (gv (nOf (nI j)))) td else dY) pd cN mN (if (opn sv an (nI j) ∧ inR y 10 ∧ ¬ gv (nOf (nI j)) < 0 ∧ prsO td rn an rA rC ft kd aG sT wh dY pd cN sv (nOf (gv (nOf (nI j)))) (nOf (nI j))) then upd sv (nOf (nI j)) (nI 1) else sv) nd wr tl lt lT lD gv gn od br)]) := by rw [← ew8]; exact hD
      exact W.iret (v := (-1)) hx hb hr (fun t ht hW => by subst hAe; exact ⟨⟨(-1), (), rfl, (if_neg hC).symm, by rw [ht]; exact hP, va_K.moved hW.alike hK, hD⟩, hS.F ht⟩) (by subst hAe; exact hS.2.2) d_O_serve_39
    · have h2 := bI_n0.mp h2
      refine lv_aload_n hx hb d_O_serve_15 rfl (lv_at hl 0 rfl) ?_
      refine fv_get (ci := 7) (v := .ref (ad 20)) (C := R_O) (T := F_O) (N := 36) hx hb hts (by decide +kernel) hown hK hP 0 0 rfl rfl rfl 27 (by decide) (hts (.fieldLink R_O 69 "PartShelvesModel" "given" "[I") (by decide +kernel)) (fun _ h9 => h9) rfl d_O_serve_16 ?_
      refine lv_iload_n hx hb d_O_serve_19 rfl (lv_at hl 1 rfl) ?_
      refine fa_iald hx hb hK hP 0 20 0 rfl rfl rfl (by omega) (by decide) d_O_serve_20 ?_
      refine lv_if_lt (tgt := 38) hx hb d_O_serve_21 (by decide) (fun h3 => ?_) (fun h3 => ?_)
      · have hC : ¬ (opn sv an (nI j) ∧ inR y 10 ∧ ¬ gv (nOf (nI j)) < 0 ∧ prsO td rn an rA rC ft kd aG sT wh dY pd cN sv (nOf (gv (nOf (nI j)))) (nOf (nI j))) := fun q => by first | (have q4 := q.2.2.2; rw [nOf_nI (by omega), ek, nOf_nI (by omega)] at q4; exact bI_0.mp h4 q4) | (have q3 := q.2.2.1; rw [nOf_nI (by omega)] at q3; exact q3 h3) | exact bI_0.mp h2 q.2.1 | exact bI_0.mp h1 q.1
        refine lv_iconst (v := (-1)) hx hb d_O_serve_38 (by decide) ?_
        have ew9 : sT = (if (opn sv an (nI j) ∧ inR y 10 ∧ ¬ gv (nOf (nI j)) < 0 ∧ prsO td rn an rA rC ft kd aG sT wh dY pd cN sv (nOf (gv (nOf (nI j)))) (nOf (nI j))) then updN sT (nOf (gv (nOf (nI j)))) 2 else sT) := (if_neg hC).symm
        have hP : va_P D cls (fl [(wO kC ad td rn pn an jn tn bm fw gp ga bp fc fj rA rC ft kd aG sR (if (opn sv an (nI j) ∧ inR y 10 ∧ ¬ gv (nOf (nI j)) < 0 ∧ prsO td rn an rA rC ft kd aG sT wh dY pd cN sv (nOf (gv (nOf (nI j)))) (nOf (nI j))) then updN sT (nOf (gv (nOf (nI j)))) 2 else sT) wh dY pd cN mN sv nd wr tl lt lT lD gv gn od br)]) s.heap := by rw [← ew9]; exact hP
        have hD : va_D A (fl [(wO kC ad td rn pn an jn tn bm fw gp ga bp fc fj rA rC ft kd aG sR (if (opn sv an (nI j) ∧ inR y 10 ∧ ¬ gv (nOf (nI j)) < 0 ∧ prsO td rn an rA rC ft kd aG sT wh dY pd cN sv (nOf (gv (nOf (nI j)))) (nOf (nI j))) then updN sT (nOf (gv (nOf (nI j)))) 2 else sT) wh dY pd cN mN sv nd wr tl lt lT lD gv gn od br)]) := by rw [← ew9]; exact hD
        have ew10 : wh = (if (opn sv an (nI j) ∧ inR y 10 ∧ ¬ gv (nOf (nI j)) < 0 ∧ prsO td rn an rA rC ft kd aG sT wh dY pd cN sv (nOf (gv (nOf (nI j)))) (nOf (nI j))) then updN wh (nOf (gv (nOf (nI j)))) (nOf y) else wh) := (if_neg hC).symm
        have hP : va_P D cls (fl [(wO kC ad td rn pn an jn tn bm fw gp ga bp fc fj rA rC ft kd aG sR (if (opn sv an (nI j) ∧ inR y 10 ∧ ¬ gv (nOf (nI j)) < 0 ∧ prsO td rn an rA rC ft kd aG sT wh dY pd cN sv (nOf (gv (nOf (nI j)))) (nOf (nI j))) then updN sT (nOf (gv (nOf (nI j)))) 2 else sT) (if (opn sv an (nI j) ∧ inR y 10 ∧ ¬ gv (nOf (nI j)) < 0 ∧ prsO td rn an rA rC ft kd aG sT wh dY pd cN sv (nOf (gv (nOf (nI j)))) (nOf (nI j))) then updN wh (nOf (gv (nOf (nI j)))) (nOf y) else wh) dY pd cN mN sv nd wr tl lt lT lD gv gn od br)]) s.heap := by rw [← ew10]; exact hP
        have hD : va_D A (fl [(wO kC ad td rn pn an jn tn bm fw gp ga bp fc fj rA rC ft kd aG sR (if (opn sv an (nI j) ∧ inR y 10 ∧ ¬ gv (nOf (nI j)) < 0 ∧ prsO td rn an rA rC ft kd aG sT wh dY pd cN sv (nOf (gv (nOf (nI j)))) (nOf (nI j))) then updN sT (nOf (gv (nOf (nI j)))) 2 else sT) (if (opn sv an (nI j) ∧ inR y 10 ∧ ¬ gv (nOf (nI j)) < 0 ∧ prsO td rn an rA rC ft kd aG sT wh dY pd cN sv (nOf (gv (nOf (nI j)))) (nOf (nI j))) then updN wh (nOf (gv (nOf (nI j)))) (nOf y) else wh) dY pd cN mN sv nd wr tl lt lT lD gv gn od br)]) := by rw [← ew10]; exact hD
        have ew11 : dY = (if (opn sv an (nI j) ∧ inR y 10 ∧ ¬ gv (nOf (nI j)) < 0 ∧ prsO td rn an rA rC ft kd aG sT wh dY pd cN sv (nOf (gv (nOf (nI j)))) (nOf (nI j))) then updN dY (nOf (gv (nOf (nI j)))) td else dY) := (if_neg hC).symm
        have hP : va_P D cls (fl [(wO kC ad td rn pn an jn tn bm fw gp ga bp fc fj rA rC ft kd aG sR (if (opn sv an (nI j) ∧ inR y 10 ∧ ¬ gv (nOf (nI j)) < 0 ∧ prsO td rn an rA rC ft kd aG sT wh dY pd cN sv (nOf (gv (nOf (nI j)))) (nOf (nI j))) then updN sT (nOf (gv (nOf (nI j)))) 2 else sT) (if (opn sv an (nI j) ∧ inR y 10 ∧ ¬ gv (nOf (nI j)) < 0 ∧ prsO td rn an rA rC ft kd aG sT wh dY pd cN sv (nOf (gv (nOf (nI j)))) (nOf (nI j))) then updN wh (nOf (gv (nOf (nI j)))) (nOf y) else wh) (if (opn sv an (nI j) ∧ inR y 10 ∧ ¬ gv (nOf (nI j)) < 0 ∧ prsO td rn an rA rC ft kd aG sT wh dY pd cN sv (nOf (gv (nOf (nI j)))) (nOf (nI j))) then updN dY (nOf (gv (nOf (nI j)))) td else dY) pd cN mN sv nd wr tl lt lT lD gv gn od br)]) s.heap := by rw [← ew11]; exact hP
        have hD : va_D A (fl [(wO kC ad td rn pn an jn tn bm fw gp ga bp fc fj rA rC ft kd aG sR (if (opn sv an (nI j) ∧ inR y 10 ∧ ¬ gv (nOf (nI j)) < 0 ∧ prsO td rn an rA rC ft kd aG sT wh dY pd cN sv (nOf (gv (nOf (nI j)))) (nOf (nI j))) then updN sT (nOf (gv (nOf (nI j)))) 2 else sT) (if (opn sv an (nI j) ∧ inR y 10 ∧ ¬ gv (nOf (nI j)) < 0 ∧ prsO td rn an rA rC ft kd aG sT wh dY pd cN sv (nOf (gv (nOf (nI j)))) (nOf (nI j))) then updN wh (nOf (gv (nOf (nI j)))) (nOf y) else wh) (if (opn sv an (nI j) ∧ inR y 10 ∧ ¬ gv (nOf (nI j)) < 0 ∧ prsO td rn an rA rC ft kd aG sT wh dY pd cN sv (nOf (gv (nOf (nI j)))) (nOf (nI j))) then updN dY (nOf (gv (nOf (nI j)))) td else dY) pd cN mN sv nd wr tl lt lT lD gv gn od br)]) := by rw [← ew11]; exact hD
        have ew12 : sv = (if (opn sv an (nI j) ∧ inR y 10 ∧ ¬ gv (nOf (nI j)) < 0 ∧ prsO td rn an rA rC ft kd aG sT wh dY pd cN sv (nOf (gv (nOf (nI j)))) (nOf (nI j))) then upd sv (nOf (nI j)) (nI 1) else sv) := (if_neg hC).symm
        have hP : va_P D cls (fl [(wO kC ad td rn pn an jn tn bm fw gp ga bp fc fj rA rC ft kd aG sR (if (opn sv an (nI j) ∧ inR y 10 ∧ ¬ gv (nOf (nI j)) < 0 ∧ prsO td rn an rA rC ft kd aG sT wh dY pd cN sv (nOf (gv (nOf (nI j)))) (nOf (nI j))) then updN sT (nOf (gv (nOf (nI j)))) 2 else sT) (if (opn sv an (nI j) ∧ inR y 10 ∧ ¬ gv (nOf (nI j)) < 0 ∧ prsO td rn an rA rC ft kd aG sT wh dY pd cN sv (nOf (gv (nOf (nI j)))) (nOf (nI j))) then updN wh (nOf (gv (nOf (nI j)))) (nOf y) else wh) (if (opn sv an (nI j) ∧ inR y 10 ∧ ¬ gv (nOf (nI j)) < 0 ∧ prsO td rn an rA rC ft kd aG sT wh dY pd cN sv (nOf (gv (nOf (nI j)))) (nOf (nI j))) then updN dY (nOf (gv (nOf (nI j)))) td else dY) pd cN mN (if (opn sv an (nI j) ∧ inR y 10 ∧ ¬ gv (nOf (nI j)) < 0 ∧ prsO td rn an rA rC ft kd aG sT wh dY pd cN sv (nOf (gv (nOf (nI j)))) (nOf (nI j))) then upd sv (nOf (nI j)) (nI 1) else sv) nd wr tl lt lT lD gv gn od br)]) s.heap := by rw [← ew12]; exact hP
        have hD : va_D A (fl [(wO kC ad td rn pn an jn tn bm fw gp ga bp fc fj rA rC ft kd aG sR (if (opn sv an (nI j) ∧ inR y 10 ∧ ¬ gv (nOf (nI j)) < 0 ∧ prsO td rn an rA rC ft kd aG sT wh dY pd cN sv (nOf (gv (nOf (nI j)))) (nOf (nI j))) then updN sT (nOf (gv (nOf (nI j)))) 2 else sT) (if (opn sv an (nI j) ∧ inR y 10 ∧ ¬ gv (nOf (nI j)) < 0 ∧ prsO td rn an rA rC ft kd aG sT wh dY pd cN sv (nOf (gv (nOf (nI j)))) (nOf (nI j))) then updN wh (nOf (gv (nOf (nI j)))) (nOf y) else wh) (if (opn sv an (nI j) ∧ inR y 10 ∧ ¬ gv (nOf (nI j)) < 0 ∧ prsO td rn an rA rC ft kd aG sT wh dY pd cN sv (nOf (gv (nOf (nI j)))) (nOf (nI j))) then updN dY (nOf (gv (nOf (nI j)))) td else dY) pd cN mN (if (opn sv an (nI j) ∧ inR y 10 ∧ ¬ gv (nOf (nI j)) < 0 ∧ prsO td rn an rA rC ft kd aG sT wh dY pd cN sv (nOf (gv (nOf (nI j)))) (nOf (nI j))) then upd sv (nOf (nI j)) (nI 1) else sv) nd wr tl lt lT lD gv gn od br)]) := by rw [← ew12]; exact hD
        exact W.iret (v := (-1)) hx hb hr (fun t ht hW => by subst hAe; exact ⟨⟨(-1), (), rfl, (if_neg hC).symm, by rw [ht]; exact hP, va_K.moved hW.alike hK, hD⟩, hS.F ht⟩) (by subst hAe; exact hS.2.2) d_O_serve_39
      · obtain ⟨k, hk, ek⟩ : ∃ k, k < 8 ∧ gv j = nI k := (hgv j).resolve_left (fun z => h3 (by rw [z]; decide))
        refine lv_aload_n hx hb d_O_serve_24 rfl (lv_at hl 0 rfl) ?_
        refine lv_aload_n hx hb d_O_serve_25 rfl (lv_at hl 0 rfl) ?_
        refine fv_get (ci := 7) (v := .ref (ad 20)) (C := R_O) (T := F_O) (N := 36) hx hb hts (by decide +kernel) hown hK hP 0 0 rfl rfl rfl 27 (by decide) (hts (.fieldLink R_O 69 "PartShelvesModel" "given" "[I") (by decide +kernel)) (fun _ h9 => h9) rfl d_O_serve_26 ?_
        refine lv_iload_n hx hb d_O_serve_29 rfl (lv_at hl 1 rfl) ?_
        refine fa_iald hx hb hK hP 0 20 0 rfl rfl rfl (by omega) (by decide) d_O_serve_30 ?_
        refine nv_topi (y := nI k) (ek) ?_
        refine lv_iload_n hx hb d_O_serve_31 rfl (lv_at hl 1 rfl) ?_
        refine r_calli (W.runV (As := [.int (nI k), .int (nI j)]) (rest := []) ⟨hx, hb, hml, hown, hts⟩ (c_O_isPair l D kC ad td rn pn an jn tn bm fw gp ga bp fc fj rA rC ft kd aG sR sT wh dY pd cN mN sv nd wr tl lt lT lD gv gn od br k j (hk) (by omega) (han) (hsT) (hdY) (htd) (hrn) (hrA) (haG) (hkd) (hpd) (hcN) (hrC) (hwh)) (cwV 2 hts g_O_serve_isPair rfl rfl rfl (by decide +kernel) ⟨Nat.le_of_ble_eq_true rfl, Nat.le_of_ble_eq_true rfl⟩) (r_preV (f_recv (ci := 7) (q0 := 0) hK hP 0 rfl rfl rfl) hK hP) rfl rfl hl.1 rfl (lv_room (Nat.le_of_ble_eq_true rfl)) d_O_serve_32 ⟨Nat.le_of_ble_eq_true rfl, Nat.le_of_ble_eq_true rfl⟩) ?_
        refine lv_if_ne (tgt := 40) hx hb d_O_serve_35 (by decide) (fun h4 => ?_) (fun h4 => ?_)
        · have h4 := bI_n0.mp h4
          have hC : (opn sv an (nI j) ∧ inR y 10 ∧ ¬ gv (nOf (nI j)) < 0 ∧ prsO td rn an rA rC ft kd aG sT wh dY pd cN sv (nOf (gv (nOf (nI j)))) (nOf (nI j))) := ⟨h1, h2, by rw [nOf_nI (by omega)]; exact h3, by rw [nOf_nI (by omega), ek, nOf_nI (by omega)]; exact h4⟩
          obtain ⟨i, hi, rfl⟩ := inR_n (by decide) h2
          refine lv_aload_n hx hb d_O_serve_40 rfl (lv_at hl 0 rfl) ?_
          refine fv_get (ci := 7) (v := .ref (ad 20)) (C := R_O) (T := F_O) (N := 36) hx hb hts (by decide +kernel) hown hK hP 0 0 rfl rfl rfl 27 (by decide) (hts (.fieldLink R_O 69 "PartShelvesModel" "given" "[I") (by decide +kernel)) (fun _ h9 => h9) rfl d_O_serve_41 ?_
          refine lv_iload_n hx hb d_O_serve_44 rfl (lv_at hl 1 rfl) ?_
          refine fa_iald hx hb hK hP 0 20 0 rfl rfl rfl (by omega) (by decide) d_O_serve_45 ?_
          refine nv_topi (y := nI k) (ek) ?_
          refine lv_istore_n (lv' := [(3, .int (nI k)), (0, .ref (ad 0)), (1, .int (nI j)), (2, .int (nI i))]) hx hb d_O_serve_46 rfl hl (by decide) rfl (fun ls hl => ?_)
          refine lv_aload_n hx hb d_O_serve_47 rfl (lv_at hl 1 rfl) ?_
          refine fv_get (ci := 7) (v := .ref (ad 7)) (C := R_O) (T := F_O) (N := 36) hx hb hts (by decide +kernel) hown hK hP 0 0 rfl rfl rfl 9 (by decide) (hts (.fieldLink R_O 30 "PartShelvesModel" "states" "[I") (by decide +kernel)) (fun _ h9 => h9) rfl d_O_serve_48 ?_
          refine lv_iload_n hx hb d_O_serve_51 rfl (lv_at hl 0 rfl) ?_
          refine lv_iconst (v := nI 2) hx hb d_O_serve_52 (by decide) ?_
          refine fa_iastN hx hb hK hP hD hS 0 7 0 rfl rfl rfl (by omega) (by decide) d_O_serve_53 (fun H locs hP hD hS => ?_)
          have hP : va_P D cls (fl [(wO kC ad td rn pn an jn tn bm fw gp ga bp fc fj rA rC ft kd aG sR (updN sT k 2) wh dY pd cN mN sv nd wr tl lt lT lD gv gn od br)]) H := hP
          have hD : va_D A (fl [(wO kC ad td rn pn an jn tn bm fw gp ga bp fc fj rA rC ft kd aG sR (updN sT k 2) wh dY pd cN mN sv nd wr tl lt lT lD gv gn od br)]) := hD
          refine lv_aload_n hx hb d_O_serve_54 rfl (lv_at hl 1 rfl) ?_
          refine fv_get (ci := 7) (v := .ref (ad 8)) (C := R_O) (T := F_O) (N := 36) hx hb hts (by decide +kernel) hown hK hP 0 0 rfl rfl rfl 10 (by decide) (hts (.fieldLink R_O 33 "PartShelvesModel" "whose" "[I") (by decide +kernel)) (fun _ h9 => h9) rfl d_O_serve_55 ?_
          refine lv_iload_n hx hb d_O_serve_58 rfl (lv_at hl 0 rfl) ?_
          refine lv_iload_n hx hb d_O_serve_59 rfl (lv_at hl 3 rfl) ?_
          refine fa_iastN hx hb hK hP hD hS 0 8 0 rfl rfl rfl (by omega) (by decide) d_O_serve_60 (fun H locs hP hD hS => ?_)
          have hP : va_P D cls (fl [(wO kC ad td rn pn an jn tn bm fw gp ga bp fc fj rA rC ft kd aG sR (updN sT k 2) (updN wh k i) dY pd cN mN sv nd wr tl lt lT lD gv gn od br)]) H := hP
          have hD : va_D A (fl [(wO kC ad td rn pn an jn tn bm fw gp ga bp fc fj rA rC ft kd aG sR (updN sT k 2) (updN wh k i) dY pd cN mN sv nd wr tl lt lT lD gv gn od br)]) := hD
          refine lv_aload_n hx hb d_O_serve_61 rfl (lv_at hl 1 rfl) ?_
          refine fv_get (ci := 7) (v := .ref (ad 9)) (C := R_O) (T := F_O) (N := 36) hx hb hts (by decide +kernel) hown hK hP 0 0 rfl rfl rfl 11 (by decide) (hts (.fieldLink R_O 36 "PartShelvesModel" "days" "[I") (by decide +kernel)) (fun _ h9 => h9) rfl d_O_serve_62 ?_
          refine lv_iload_n hx hb d_O_serve_65 rfl (lv_at hl 0 rfl) ?_
          refine lv_aload_n hx hb d_O_serve_66 rfl (lv_at hl 1 rfl) ?_
          refine fv_get (ci := 7) (v := .int (nI td)) (C := R_O) (T := F_O) (N := 36) hx hb hts (by decide +kernel) hown hK hP 0 0 rfl rfl rfl 0 (by decide) (hts (.fieldLink R_O 88 "PartShelvesModel" "today" "I") (by decide +kernel)) (fun _ h9 => h9) rfl d_O_serve_67 ?_
          refine fa_iastN hx hb hK hP hD hS 0 9 0 rfl rfl rfl (by omega) (by decide) d_O_serve_70 (fun H locs hP hD hS => ?_)
          have hP : va_P D cls (fl [(wO kC ad td rn pn an jn tn bm fw gp ga bp fc fj rA rC ft kd aG sR (updN sT k 2) (updN wh k i) (updN dY k td) pd cN mN sv nd wr tl lt lT lD gv gn od br)]) H := hP
          have hD : va_D A (fl [(wO kC ad td rn pn an jn tn bm fw gp ga bp fc fj rA rC ft kd aG sR (updN sT k 2) (updN wh k i) (updN dY k td) pd cN mN sv nd wr tl lt lT lD gv gn od br)]) := hD
          refine lv_aload_n hx hb d_O_serve_71 rfl (lv_at hl 1 rfl) ?_
          refine fv_get (ci := 7) (v := .ref (ad 13)) (C := R_O) (T := F_O) (N := 36) hx hb hts (by decide +kernel) hown hK hP 0 0 rfl rfl rfl 16 (by decide) (hts (.fieldLink R_O 48 "PartShelvesModel" "served" "[Z") (by decide +kernel)) (fun _ h9 => h9) rfl d_O_serve_72 ?_
          refine lv_iload_n hx hb d_O_serve_75 rfl (lv_at hl 2 rfl) ?_
          refine lv_iconst (v := nI 1) hx hb d_O_serve_76 (by decide) ?_
          refine fa_zast hx hb hK hP hD hS 0 13 2 rfl rfl rfl (by decide) (by omega) (by decide) d_O_serve_77 (fun H locs hP hD hS => ?_)
          have hP : va_P D cls (fl [(wO kC ad td rn pn an jn tn bm fw gp ga bp fc fj rA rC ft kd aG sR (updN sT k 2) (updN wh k i) (updN dY k td) pd cN mN (upd sv j (nI 1)) nd wr tl lt lT lD gv gn od br)]) H := hP
          have hD : va_D A (fl [(wO kC ad td rn pn an jn tn bm fw gp ga bp fc fj rA rC ft kd aG sR (updN sT k 2) (updN wh k i) (updN dY k td) pd cN mN (upd sv j (nI 1)) nd wr tl lt lT lD gv gn od br)]) := hD
          refine lv_iload_n hx hb d_O_serve_78 rfl (lv_at hl 0 rfl) ?_
          have ew13 : (updN sT k 2) = (if (opn sv an (nI j) ∧ inR (nI i) 10 ∧ ¬ gv (nOf (nI j)) < 0 ∧ prsO td rn an rA rC ft kd aG sT wh dY pd cN sv (nOf (gv (nOf (nI j)))) (nOf (nI j))) then updN sT (nOf (gv (nOf (nI j)))) 2 else sT) := by rw [if_pos hC, nOf_nI (by omega), ek, nOf_nI (by omega)]
          have hP : va_P D cls (fl [(wO kC ad td rn pn an jn tn bm fw gp ga bp fc fj rA rC ft kd aG sR (if (opn sv an (nI j) ∧ inR (nI i) 10 ∧ ¬ gv (nOf (nI j)) < 0 ∧ prsO td rn an rA rC ft kd aG sT wh dY pd cN sv (nOf (gv (nOf (nI j)))) (nOf (nI j))) then updN sT (nOf (gv (nOf (nI j)))) 2 else sT) (updN wh k i) (updN dY k td) pd cN mN (upd sv j (nI 1)) nd wr tl lt lT lD gv gn od br)]) H := by rw [← ew13]; exact hP
          have hD : va_D A (fl [(wO kC ad td rn pn an jn tn bm fw gp ga bp fc fj rA rC ft kd aG sR (if (opn sv an (nI j) ∧ inR (nI i) 10 ∧ ¬ gv (nOf (nI j)) < 0 ∧ prsO td rn an rA rC ft kd aG sT wh dY pd cN sv (nOf (gv (nOf (nI j)))) (nOf (nI j))) then updN sT (nOf (gv (nOf (nI j)))) 2 else sT) (updN wh k i) (updN dY k td) pd cN mN (upd sv j (nI 1)) nd wr tl lt lT lD gv gn od br)]) := by rw [← ew13]; exact hD
          have ew14 : (updN wh k i) = (if (opn sv an (nI j) ∧ inR (nI i) 10 ∧ ¬ gv (nOf (nI j)) < 0 ∧ prsO td rn an rA rC ft kd aG sT wh dY pd cN sv (nOf (gv (nOf (nI j)))) (nOf (nI j))) then updN wh (nOf (gv (nOf (nI j)))) (nOf (nI i)) else wh) := by rw [if_pos hC, nOf_nI (by omega), ek, nOf_nI (by omega), nOf_nI (by omega)]
          have hP : va_P D cls (fl [(wO kC ad td rn pn an jn tn bm fw gp ga bp fc fj rA rC ft kd aG sR (if (opn sv an (nI j) ∧ inR (nI i) 10 ∧ ¬ gv (nOf (nI j)) < 0 ∧ prsO td rn an rA rC ft kd aG sT wh dY pd cN sv (nOf (gv (nOf (nI j)))) (nOf (nI j))) then updN sT (nOf (gv (nOf (nI j)))) 2 else sT) (if (opn sv an (nI j) ∧ inR (nI i) 10 ∧ ¬ gv (nOf (nI j)) < 0 ∧ prsO td rn an rA rC ft kd aG sT wh dY pd cN sv (nOf (gv (nOf (nI j)))) (nOf (nI j))) then updN wh (nOf (gv (nOf (nI j)))) (nOf (nI i)) else wh) (updN dY k td) pd cN mN (upd sv j (nI 1)) nd wr tl lt lT lD gv gn od br)]) H := by rw [← ew14]; exact hP
          have hD : va_D A (fl [(wO kC ad td rn pn an jn tn bm fw gp ga bp fc fj rA rC ft kd aG sR (if (opn sv an (nI j) ∧ inR (nI i) 10 ∧ ¬ gv (nOf (nI j)) < 0 ∧ prsO td rn an rA rC ft kd aG sT wh dY pd cN sv (nOf (gv (nOf (nI j)))) (nOf (nI j))) then updN sT (nOf (gv (nOf (nI j)))) 2 else sT) (if (opn sv an (nI j) ∧ inR (nI i) 10 ∧ ¬ gv (nOf (nI j)) < 0 ∧ prsO td rn an rA rC ft kd aG sT wh dY pd cN sv (nOf (gv (nOf (nI j)))) (nOf (nI j))) then updN wh (nOf (gv (nOf (nI j)))) (nOf (nI i)) else wh) (updN dY k td) pd cN mN (upd sv j (nI 1)) nd wr tl lt lT lD gv gn od br)]) := by rw [← ew14]; exact hD
          have ew15 : (updN dY k td) = (if (opn sv an (nI j) ∧ inR (nI i) 10 ∧ ¬ gv (nOf (nI j)) < 0 ∧ prsO td rn an rA rC ft kd aG sT wh dY pd cN sv (nOf (gv (nOf (nI j)))) (nOf (nI j))) then updN dY (nOf (gv (nOf (nI j)))) td else dY) := by rw [if_pos hC, nOf_nI (by omega), ek, nOf_nI (by omega)]
          have hP : va_P D cls (fl [(wO kC ad td rn pn an jn tn bm fw gp ga bp fc fj rA rC ft kd aG sR (if (opn sv an (nI j) ∧ inR (nI i) 10 ∧ ¬ gv (nOf (nI j)) < 0 ∧ prsO td rn an rA rC ft kd aG sT wh dY pd cN sv (nOf (gv (nOf (nI j)))) (nOf (nI j))) then updN sT (nOf (gv (nOf (nI j)))) 2 else sT) (if (opn sv an (nI j) ∧ inR (nI i) 10 ∧ ¬ gv (nOf (nI j)) < 0 ∧ prsO td rn an rA rC ft kd aG sT wh dY pd cN sv (nOf (gv (nOf (nI j)))) (nOf (nI j))) then updN wh (nOf (gv (nOf (nI j)))) (nOf (nI i)) else wh) (if (opn sv an (nI j) ∧ inR (nI i) 10 ∧ ¬ gv (nOf (nI j)) < 0 ∧ prsO td rn an rA rC ft kd aG sT wh dY pd cN sv (nOf (gv (nOf (nI j)))) (nOf (nI j))) then updN dY (nOf (gv (nOf (nI j)))) td else dY) pd cN mN (upd sv j (nI 1)) nd wr tl lt lT lD gv gn od br)]) H := by rw [← ew15]; exact hP
          have hD : va_D A (fl [(wO kC ad td rn pn an jn tn bm fw gp ga bp fc fj rA rC ft kd aG sR (if (opn sv an (nI j) ∧ inR (nI i) 10 ∧ ¬ gv (nOf (nI j)) < 0 ∧ prsO td rn an rA rC ft kd aG sT wh dY pd cN sv (nOf (gv (nOf (nI j)))) (nOf (nI j))) then updN sT (nOf (gv (nOf (nI j)))) 2 else sT) (if (opn sv an (nI j) ∧ inR (nI i) 10 ∧ ¬ gv (nOf (nI j)) < 0 ∧ prsO td rn an rA rC ft kd aG sT wh dY pd cN sv (nOf (gv (nOf (nI j)))) (nOf (nI j))) then updN wh (nOf (gv (nOf (nI j)))) (nOf (nI i)) else wh) (if (opn sv an (nI j) ∧ inR (nI i) 10 ∧ ¬ gv (nOf (nI j)) < 0 ∧ prsO td rn an rA rC ft kd aG sT wh dY pd cN sv (nOf (gv (nOf (nI j)))) (nOf (nI j))) then updN dY (nOf (gv (nOf (nI j)))) td else dY) pd cN mN (upd sv j (nI 1)) nd wr tl lt lT lD gv gn od br)]) := by rw [← ew15]; exact hD
          have ew16 : (upd sv j (nI 1)) = (if (opn sv an (nI j) ∧ inR (nI i) 10 ∧ ¬ gv (nOf (nI j)) < 0 ∧ prsO td rn an rA rC ft kd aG sT wh dY pd cN sv (nOf (gv (nOf (nI j)))) (nOf (nI j))) then upd sv (nOf (nI j)) (nI 1) else sv) := by rw [if_pos hC, nOf_nI (by omega)]
          have hP : va_P D cls (fl [(wO kC ad td rn pn an jn tn bm fw gp ga bp fc fj rA rC ft kd aG sR (if (opn sv an (nI j) ∧ inR (nI i) 10 ∧ ¬ gv (nOf (nI j)) < 0 ∧ prsO td rn an rA rC ft kd aG sT wh dY pd cN sv (nOf (gv (nOf (nI j)))) (nOf (nI j))) then updN sT (nOf (gv (nOf (nI j)))) 2 else sT) (if (opn sv an (nI j) ∧ inR (nI i) 10 ∧ ¬ gv (nOf (nI j)) < 0 ∧ prsO td rn an rA rC ft kd aG sT wh dY pd cN sv (nOf (gv (nOf (nI j)))) (nOf (nI j))) then updN wh (nOf (gv (nOf (nI j)))) (nOf (nI i)) else wh) (if (opn sv an (nI j) ∧ inR (nI i) 10 ∧ ¬ gv (nOf (nI j)) < 0 ∧ prsO td rn an rA rC ft kd aG sT wh dY pd cN sv (nOf (gv (nOf (nI j)))) (nOf (nI j))) then updN dY (nOf (gv (nOf (nI j)))) td else dY) pd cN mN (if (opn sv an (nI j) ∧ inR (nI i) 10 ∧ ¬ gv (nOf (nI j)) < 0 ∧ prsO td rn an rA rC ft kd aG sT wh dY pd cN sv (nOf (gv (nOf (nI j)))) (nOf (nI j))) then upd sv (nOf (nI j)) (nI 1) else sv) nd wr tl lt lT lD gv gn od br)]) H := by rw [← ew16]; exact hP
          have hD : va_D A (fl [(wO kC ad td rn pn an jn tn bm fw gp ga bp fc fj rA rC ft kd aG sR (if (opn sv an (nI j) ∧ inR (nI i) 10 ∧ ¬ gv (nOf (nI j)) < 0 ∧ prsO td rn an rA rC ft kd aG sT wh dY pd cN sv (nOf (gv (nOf (nI j)))) (nOf (nI j))) then updN sT (nOf (gv (nOf (nI j)))) 2 else sT) (if (opn sv an (nI j) ∧ inR (nI i) 10 ∧ ¬ gv (nOf (nI j)) < 0 ∧ prsO td rn an rA rC ft kd aG sT wh dY pd cN sv (nOf (gv (nOf (nI j)))) (nOf (nI j))) then updN wh (nOf (gv (nOf (nI j)))) (nOf (nI i)) else wh) (if (opn sv an (nI j) ∧ inR (nI i) 10 ∧ ¬ gv (nOf (nI j)) < 0 ∧ prsO td rn an rA rC ft kd aG sT wh dY pd cN sv (nOf (gv (nOf (nI j)))) (nOf (nI j))) then updN dY (nOf (gv (nOf (nI j)))) td else dY) pd cN mN (if (opn sv an (nI j) ∧ inR (nI i) 10 ∧ ¬ gv (nOf (nI j)) < 0 ∧ prsO td rn an rA rC ft kd aG sT wh dY pd cN sv (nOf (gv (nOf (nI j)))) (nOf (nI j))) then upd sv (nOf (nI j)) (nI 1) else sv) nd wr tl lt lT lD gv gn od br)]) := by rw [← ew16]; exact hD
          exact W.iret (v := nI k) hx hb hr (fun t ht hW => by subst hAe; exact ⟨⟨(nI k), (), rfl, by rw [if_pos hC, nOf_nI (by omega), ek], by rw [ht]; exact hP, va_K.moved hW.alike hK, hD⟩, hS.F ht⟩) (by subst hAe; exact hS.2.2) d_O_serve_79
        · have hC : ¬ (opn sv an (nI j) ∧ inR y 10 ∧ ¬ gv (nOf (nI j)) < 0 ∧ prsO td rn an rA rC ft kd aG sT wh dY pd cN sv (nOf (gv (nOf (nI j)))) (nOf (nI j))) := fun q => by first | (have q4 := q.2.2.2; rw [nOf_nI (by omega), ek, nOf_nI (by omega)] at q4; exact bI_0.mp h4 q4) | (have q3 := q.2.2.1; rw [nOf_nI (by omega)] at q3; exact q3 h3) | exact bI_0.mp h2 q.2.1 | exact bI_0.mp h1 q.1
          refine lv_iconst (v := (-1)) hx hb d_O_serve_38 (by decide) ?_
          have ew17 : sT = (if (opn sv an (nI j) ∧ inR y 10 ∧ ¬ gv (nOf (nI j)) < 0 ∧ prsO td rn an rA rC ft kd aG sT wh dY pd cN sv (nOf (gv (nOf (nI j)))) (nOf (nI j))) then updN sT (nOf (gv (nOf (nI j)))) 2 else sT) := (if_neg hC).symm
          have hP : va_P D cls (fl [(wO kC ad td rn pn an jn tn bm fw gp ga bp fc fj rA rC ft kd aG sR (if (opn sv an (nI j) ∧ inR y 10 ∧ ¬ gv (nOf (nI j)) < 0 ∧ prsO td rn an rA rC ft kd aG sT wh dY pd cN sv (nOf (gv (nOf (nI j)))) (nOf (nI j))) then updN sT (nOf (gv (nOf (nI j)))) 2 else sT) wh dY pd cN mN sv nd wr tl lt lT lD gv gn od br)]) s.heap := by rw [← ew17]; exact hP
          have hD : va_D A (fl [(wO kC ad td rn pn an jn tn bm fw gp ga bp fc fj rA rC ft kd aG sR (if (opn sv an (nI j) ∧ inR y 10 ∧ ¬ gv (nOf (nI j)) < 0 ∧ prsO td rn an rA rC ft kd aG sT wh dY pd cN sv (nOf (gv (nOf (nI j)))) (nOf (nI j))) then updN sT (nOf (gv (nOf (nI j)))) 2 else sT) wh dY pd cN mN sv nd wr tl lt lT lD gv gn od br)]) := by rw [← ew17]; exact hD
          have ew18 : wh = (if (opn sv an (nI j) ∧ inR y 10 ∧ ¬ gv (nOf (nI j)) < 0 ∧ prsO td rn an rA rC ft kd aG sT wh dY pd cN sv (nOf (gv (nOf (nI j)))) (nOf (nI j))) then updN wh (nOf (gv (nOf (nI j)))) (nOf y) else wh) := (if_neg hC).symm
          have hP : va_P D cls (fl [(wO kC ad td rn pn an jn tn bm fw gp ga bp fc fj rA rC ft kd aG sR (if (opn sv an (nI j) ∧ inR y 10 ∧ ¬ gv (nOf (nI j)) < 0 ∧ prsO td rn an rA rC ft kd aG sT wh dY pd cN sv (nOf (gv (nOf (nI j)))) (nOf (nI j))) then updN sT (nOf (gv (nOf (nI j)))) 2 else sT) (if (opn sv an (nI j) ∧ inR y 10 ∧ ¬ gv (nOf (nI j)) < 0 ∧ prsO td rn an rA rC ft kd aG sT wh dY pd cN sv (nOf (gv (nOf (nI j)))) (nOf (nI j))) then updN wh (nOf (gv (nOf (nI j)))) (nOf y) else wh) dY pd cN mN sv nd wr tl lt lT lD gv gn od br)]) s.heap := by rw [← ew18]; exact hP
          have hD : va_D A (fl [(wO kC ad td rn pn an jn tn bm fw gp ga bp fc fj rA rC ft kd aG sR (if (opn sv an (nI j) ∧ inR y 10 ∧ ¬ gv (nOf (nI j)) < 0 ∧ prsO td rn an rA rC ft kd aG sT wh dY pd cN sv (nOf (gv (nOf (nI j)))) (nOf (nI j))) then updN sT (nOf (gv (nOf (nI j)))) 2 else sT) (if (opn sv an (nI j) ∧ inR y 10 ∧ ¬ gv (nOf (nI j)) < 0 ∧ prsO td rn an rA rC ft kd aG sT wh dY pd cN sv (nOf (gv (nOf (nI j)))) (nOf (nI j))) then updN wh (nOf (gv (nOf (nI j)))) (nOf y) else wh) dY pd cN mN sv nd wr tl lt lT lD gv gn od br)]) := by rw [← ew18]; exact hD
          have ew19 : dY = (if (opn sv an (nI j) ∧ inR y 10 ∧ ¬ gv (nOf (nI j)) < 0 ∧ prsO td rn an rA rC ft kd aG sT wh dY pd cN sv (nOf (gv (nOf (nI j)))) (nOf (nI j))) then updN dY (nOf (gv (nOf (nI j)))) td else dY) := (if_neg hC).symm
          have hP : va_P D cls (fl [(wO kC ad td rn pn an jn tn bm fw gp ga bp fc fj rA rC ft kd aG sR (if (opn sv an (nI j) ∧ inR y 10 ∧ ¬ gv (nOf (nI j)) < 0 ∧ prsO td rn an rA rC ft kd aG sT wh dY pd cN sv (nOf (gv (nOf (nI j)))) (nOf (nI j))) then updN sT (nOf (gv (nOf (nI j)))) 2 else sT) (if (opn sv an (nI j) ∧ inR y 10 ∧ ¬ gv (nOf (nI j)) < 0 ∧ prsO td rn an rA rC ft kd aG sT wh dY pd cN sv (nOf (gv (nOf (nI j)))) (nOf (nI j))) then updN wh (nOf (gv (nOf (nI j)))) (nOf y) else wh) (if (opn sv an (nI j) ∧ inR y 10 ∧ ¬ gv (nOf (nI j)) < 0 ∧ prsO td rn an rA rC ft kd aG sT wh dY pd cN sv (nOf (gv (nOf (nI j)))) (nOf (nI j))) then updN dY (nOf (gv (nOf (nI j)))) td else dY) pd cN mN sv nd wr tl lt lT lD gv gn od br)]) s.heap := by rw [← ew19]; exact hP
          have hD : va_D A (fl [(wO kC ad td rn pn an jn tn bm fw gp ga bp fc fj rA rC ft kd aG sR (if (opn sv an (nI j) ∧ inR y 10 ∧ ¬ gv (nOf (nI j)) < 0 ∧ prsO td rn an rA rC ft kd aG sT wh dY pd cN sv (nOf (gv (nOf (nI j)))) (nOf (nI j))) then updN sT (nOf (gv (nOf (nI j)))) 2 else sT) (if (opn sv an (nI j) ∧ inR y 10 ∧ ¬ gv (nOf (nI j)) < 0 ∧ prsO td rn an rA rC ft kd aG sT wh dY pd cN sv (nOf (gv (nOf (nI j)))) (nOf (nI j))) then updN wh (nOf (gv (nOf (nI j)))) (nOf y) else wh) (if (opn sv an (nI j) ∧ inR y 10 ∧ ¬ gv (nOf (nI j)) < 0 ∧ prsO td rn an rA rC ft kd aG sT wh dY pd cN sv (nOf (gv (nOf (nI j)))) (nOf (nI j))) then updN dY (nOf (gv (nOf (nI j)))) td else dY) pd cN mN sv nd wr tl lt lT lD gv gn od br)]) := by rw [← ew19]; exact hD
          have ew20 : sv = (if (opn sv an (nI j) ∧ inR y 10 ∧ ¬ gv (nOf (nI j)) < 0 ∧ prsO td rn an rA rC ft kd aG sT wh dY pd cN sv (nOf (gv (nOf (nI j)))) (nOf (nI j))) then upd sv (nOf (nI j)) (nI 1) else sv) := (if_neg hC).symm
          have hP : va_P D cls (fl [(wO kC ad td rn pn an jn tn bm fw gp ga bp fc fj rA rC ft kd aG sR (if (opn sv an (nI j) ∧ inR y 10 ∧ ¬ gv (nOf (nI j)) < 0 ∧ prsO td rn an rA rC ft kd aG sT wh dY pd cN sv (nOf (gv (nOf (nI j)))) (nOf (nI j))) then updN sT (nOf (gv (nOf (nI j)))) 2 else sT) (if (opn sv an (nI j) ∧ inR y 10 ∧ ¬ gv (nOf (nI j)) < 0 ∧ prsO td rn an rA rC ft kd aG sT wh dY pd cN sv (nOf (gv (nOf (nI j)))) (nOf (nI j))) then updN wh (nOf (gv (nOf (nI j)))) (nOf y) else wh) (if (opn sv an (nI j) ∧ inR y 10 ∧ ¬ gv (nOf (nI j)) < 0 ∧ prsO td rn an rA rC ft kd aG sT wh dY pd cN sv (nOf (gv (nOf (nI j)))) (nOf (nI j))) then updN dY (nOf (gv (nOf (nI j)))) td else dY) pd cN mN (if (opn sv an (nI j) ∧ inR y 10 ∧ ¬ gv (nOf (nI j)) < 0 ∧ prsO td rn an rA rC ft kd aG sT wh dY pd cN sv (nOf (gv (nOf (nI j)))) (nOf (nI j))) then upd sv (nOf (nI j)) (nI 1) else sv) nd wr tl lt lT lD gv gn od br)]) s.heap := by rw [← ew20]; exact hP
          have hD : va_D A (fl [(wO kC ad td rn pn an jn tn bm fw gp ga bp fc fj rA rC ft kd aG sR (if (opn sv an (nI j) ∧ inR y 10 ∧ ¬ gv (nOf (nI j)) < 0 ∧ prsO td rn an rA rC ft kd aG sT wh dY pd cN sv (nOf (gv (nOf (nI j)))) (nOf (nI j))) then updN sT (nOf (gv (nOf (nI j)))) 2 else sT) (if (opn sv an (nI j) ∧ inR y 10 ∧ ¬ gv (nOf (nI j)) < 0 ∧ prsO td rn an rA rC ft kd aG sT wh dY pd cN sv (nOf (gv (nOf (nI j)))) (nOf (nI j))) then updN wh (nOf (gv (nOf (nI j)))) (nOf y) else wh) (if (opn sv an (nI j) ∧ inR y 10 ∧ ¬ gv (nOf (nI j)) < 0 ∧ prsO td rn an rA rC ft kd aG sT wh dY pd cN sv (nOf (gv (nOf (nI j)))) (nOf (nI j))) then updN dY (nOf (gv (nOf (nI j)))) td else dY) pd cN mN (if (opn sv an (nI j) ∧ inR y 10 ∧ ¬ gv (nOf (nI j)) < 0 ∧ prsO td rn an rA rC ft kd aG sT wh dY pd cN sv (nOf (gv (nOf (nI j)))) (nOf (nI j))) then upd sv (nOf (nI j)) (nI 1) else sv) nd wr tl lt lT lD gv gn od br)]) := by rw [← ew20]; exact hD
          exact W.iret (v := (-1)) hx hb hr (fun t ht hW => by subst hAe; exact ⟨⟨(-1), (), rfl, (if_neg hC).symm, by rw [ht]; exact hP, va_K.moved hW.alike hK, hD⟩, hS.F ht⟩) (by subst hAe; exact hS.2.2) d_O_serve_39

abbrev b_O_job : ByteArray := prog_9_method_27_code
def y_O_job : MethodName := ⟨"PartShelvesModel", "job", "()I"⟩
theorem d_O_job_0 : decode b_O_job 0 = .ok (.aload_n 0, 1) := by decide +kernel
theorem d_O_job_1 : decode b_O_job 1 = .ok (.getfield 159, 3) := by decide +kernel
theorem d_O_job_4 : decode b_O_job 4 = .ok (.bipush 6, 2) := by decide +kernel
theorem d_O_job_6 : decode b_O_job 6 = .ok (.if_icmp .ne 5, 3) := by decide +kernel
theorem d_O_job_9 : decode b_O_job 9 = .ok (.iconst (-1), 1) := by decide +kernel
theorem d_O_job_10 : decode b_O_job 10 = .ok (.ireturn, 1) := by decide +kernel
theorem d_O_job_11 : decode b_O_job 11 = .ok (.aload_n 0, 1) := by decide +kernel
theorem d_O_job_12 : decode b_O_job 12 = .ok (.dup, 1) := by decide +kernel
theorem d_O_job_13 : decode b_O_job 13 = .ok (.getfield 159, 3) := by decide +kernel
theorem d_O_job_16 : decode b_O_job 16 = .ok (.iconst 1, 1) := by decide +kernel
theorem d_O_job_17 : decode b_O_job 17 = .ok (.iadd, 1) := by decide +kernel
theorem d_O_job_18 : decode b_O_job 18 = .ok (.putfield 159, 3) := by decide +kernel
theorem d_O_job_21 : decode b_O_job 21 = .ok (.aload_n 0, 1) := by decide +kernel
theorem d_O_job_22 : decode b_O_job 22 = .ok (.getfield 159, 3) := by decide +kernel
theorem d_O_job_25 : decode b_O_job 25 = .ok (.iconst 1, 1) := by decide +kernel
theorem d_O_job_26 : decode b_O_job 26 = .ok (.isub, 1) := by decide +kernel
theorem d_O_job_27 : decode b_O_job 27 = .ok (.ireturn, 1) := by decide +kernel
def w_O_job : List Cond := .code y_O_job b_O_job 1 (some .int) :: ([.fieldLink "PartShelvesModel" 159 "PartShelvesModel" "jobs" "I"] ++ u_ws R_O F_O 36)
set_option maxHeartbeats 4000000 in
set_option maxRecDepth 100000 in
theorem c_O_job (l : Launch) (D : va_G) (kC : Nat → ClassId) (ad : Nat → Nat) (td : Nat) (rn : Nat) (pn : Nat) (an : Nat) (jn : Nat) (tn : Nat) (bm : Int32) (fw : Int64) (gp : Nat) (ga : Nat) (bp : Int32) (fc : Int64) (fj : Nat) (rA : Nat → Nat) (rC : Nat → Nat) (ft : Nat → Int32) (kd : Nat → Nat) (aG : Nat → Nat) (sR : Nat → Nat) (sT : Nat → Nat) (wh : Nat → Nat) (dY : Nat → Nat) (pd : Nat → Nat) (cN : Nat → Nat) (mN : Nat → Nat) (sv : Nat → Int32) (nd : Nat → Nat) (wr : Nat → Nat) (tl : Nat → Nat) (lt : Nat → Int32) (lT : Nat → Nat) (lD : Nat → Nat) (gv : Nat → Int32) (gn : Nat → Int64) (od : Nat → Nat) (br : Nat → Nat) (sz : Nat) (hjn : jn ≤ 6) : Met l y_O_job w_O_job ({ frames := 0, cells := 0, slots := 0, locals := 0 } : Room) (gPre cls D (tyL kC) [.ref (ad 0)] (fl [(wO kC ad td rn pn an jn tn bm fw gp ga bp fc fj rA rC ft kd aG sR sT wh dY pd cN mN sv nd wr tl lt lT lD gv gn od br)]) sz) (gQi cls D (tyL kC) (fl [(wO kC ad td rn pn an jn tn bm fw gp ga bp fc fj rA rC ft kd aG sR sT wh dY pd cN mN sv nd wr tl lt lT lD gv gn od br)]) sz (if jn < 6 then nI jn else -1) (fl [(wO kC ad td rn pn an (if jn < 6 then jn + 1 else jn) tn bm fw gp ga bp fc fj rA rC ft kd aG sR sT wh dY pd cN mN sv nd wr tl lt lT lD gv gn od br)])) 0 0 (va_A (fl [(wO kC ad td rn pn an jn tn bm fw gp ga bp fc fj rA rC ft kd aG sR sT wh dY pd cN mN sv nd wr tl lt lT lD gv gn od br)]) sz) := by
  refine Met.ofW (cc := b_O_job) (maxL := 1) (ret := (some .int)) (by decide) rfl ?_
  intro p e s m args below meth c s₁ B hml hv
  obtain ⟨rfl, hsz, hP, hK, hD0⟩ := hv
  have hx := B.exec
  have hb := B.bytes
  have hr := B.returns
  have hts := atoms_spec (ws := w_O_job) B.pre
  have hown : s.vm.findClass R_O = some m.cls := findClass_of_methodNamed B.named
  have hlocks := B.notSynchronized
  subst hsz
  obtain ⟨A, hAe⟩ : ∃ A : Nat → Prop, A = va_A (fl [(wO kC ad td rn pn an jn tn bm fw gp ga bp fc fj rA rC ft kd aG sR sT wh dY pd cN mN sv nd wr tl lt lT lD gv gn od br)]) s.heap.size := ⟨_, rfl⟩
  have hD : va_D A (fl [(wO kC ad td rn pn an jn tn bm fw gp ga bp fc fj rA rC ft kd aG sR sT wh dY pd cN mN sv nd wr tl lt lT lD gv gn od br)]) := by rw [hAe]; exact hD0.self
  have hA : ∀ q : Nat, s.heap.size ≤ q → A q := fun q h => by rw [hAe]; exact Or.inr h
  have hS : va_S A s.heap s.heap [] := va_S.rf
  have hl := lv_entry ([.ref (ad 0)]) (n := 1) (Nat.le_of_ble_eq_true rfl)
  rw [lg_entry_eq]
  generalize (lg_sl ([.ref (ad 0)]) ++ List.replicate (1 - (lg_sl ([.ref (ad 0)])).length) Slot.unset).toArray = ls at hl ⊢
  have hl : lv_has ls 1 [(0, .ref (ad 0))] := hl
  refine lv_aload_n hx hb d_O_job_0 rfl (lv_at hl 0 rfl) ?_
  refine fv_get (ci := 7) (v := .int (nI jn)) (C := R_O) (T := F_O) (N := 36) hx hb hts (by decide +kernel) hown hK hP 0 0 rfl rfl rfl 17 (by decide) (hts (.fieldLink R_O 159 "PartShelvesModel" "jobs" "I") (by decide +kernel)) (fun _ h9 => h9) rfl d_O_job_1 ?_
  refine lv_bipush (v := nI 6) hx hb d_O_job_4 (by decide +kernel) ?_
  refine nv_icmp_ne (tgt := 11) hx hb d_O_job_6 (by decide) (by omega) (by omega) (fun h1 => ?_) (fun h1 => ?_)
  · have hC : jn < 6 := by omega
    refine lv_aload_n hx hb d_O_job_11 rfl (lv_at hl 0 rfl) ?_
    refine lv_dup hx hb d_O_job_12 rfl ?_
    refine fv_get (ci := 7) (v := .int (nI jn)) (C := R_O) (T := F_O) (N := 36) hx hb hts (by decide +kernel) hown hK hP 0 0 rfl rfl rfl 17 (by decide) (hts (.fieldLink R_O 159 "PartShelvesModel" "jobs" "I") (by decide +kernel)) (fun _ h9 => h9) rfl d_O_job_13 ?_
    refine lv_iconst (v := nI 1) hx hb d_O_job_16 (by decide) ?_
    refine nv_iadd hx hb d_O_job_17 ?_
    refine fv_put (ci := 7) (v := .int (nI (jn + 1))) (ty := (.int)) (C := R_O) (T := F_O) (N := 36) hx hb hts (by decide +kernel) t_O t_O_ok n_O hown hK hP hD hS 0 0 rfl rfl rfl 17 (by decide) (hts (.fieldLink R_O 159 "PartShelvesModel" "jobs" "I") (by decide +kernel)) (fun _ h9 => h9) rfl (by decide +kernel) (rfl) (rfl) (Nat.le_of_ble_eq_true rfl) d_O_job_18 (fun H locs hP hD hS => ?_)
    have hP : va_P D cls (fl [(wO kC ad td rn pn an (jn + 1) tn bm fw gp ga bp fc fj rA rC ft kd aG sR sT wh dY pd cN mN sv nd wr tl lt lT lD gv gn od br)]) H := hP
    have hD : va_D A (fl [(wO kC ad td rn pn an (jn + 1) tn bm fw gp ga bp fc fj rA rC ft kd aG sR sT wh dY pd cN mN sv nd wr tl lt lT lD gv gn od br)]) := hD
    refine lv_aload_n hx hb d_O_job_21 rfl (lv_at hl 0 rfl) ?_
    refine fv_get (ci := 7) (v := .int (nI (jn + 1))) (C := R_O) (T := F_O) (N := 36) hx hb hts (by decide +kernel) hown hK hP 0 0 rfl rfl rfl 17 (by decide) (hts (.fieldLink R_O 159 "PartShelvesModel" "jobs" "I") (by decide +kernel)) (fun _ h9 => h9) rfl d_O_job_22 ?_
    refine lv_iconst (v := nI 1) hx hb d_O_job_25 (by decide) ?_
    refine nv_isub hx hb d_O_job_26 (by omega) ?_
    have ew1 : (jn + 1) = (if jn < 6 then jn + 1 else jn) := by rw [if_pos hC]
    have hP : va_P D cls (fl [(wO kC ad td rn pn an (if jn < 6 then jn + 1 else jn) tn bm fw gp ga bp fc fj rA rC ft kd aG sR sT wh dY pd cN mN sv nd wr tl lt lT lD gv gn od br)]) H := by rw [← ew1]; exact hP
    have hD : va_D A (fl [(wO kC ad td rn pn an (if jn < 6 then jn + 1 else jn) tn bm fw gp ga bp fc fj rA rC ft kd aG sR sT wh dY pd cN mN sv nd wr tl lt lT lD gv gn od br)]) := by rw [← ew1]; exact hD
    exact W.iret (v := nI ((jn + 1) - 1)) hx hb hr (fun t ht hW => by subst hAe; exact ⟨⟨(nI ((jn + 1) - 1)), (), rfl, (if_pos hC).symm, by rw [ht]; exact hP, va_K.moved hW.alike hK, hD⟩, hS.F ht⟩) (by subst hAe; exact hS.2.2) d_O_job_27
  · have hC : ¬ jn < 6 := by omega
    refine lv_iconst (v := (-1)) hx hb d_O_job_9 (by decide) ?_
    have ew2 : jn = (if jn < 6 then jn + 1 else jn) := (if_neg hC).symm
    have hP : va_P D cls (fl [(wO kC ad td rn pn an (if jn < 6 then jn + 1 else jn) tn bm fw gp ga bp fc fj rA rC ft kd aG sR sT wh dY pd cN mN sv nd wr tl lt lT lD gv gn od br)]) s.heap := by rw [← ew2]; exact hP
    have hD : va_D A (fl [(wO kC ad td rn pn an (if jn < 6 then jn + 1 else jn) tn bm fw gp ga bp fc fj rA rC ft kd aG sR sT wh dY pd cN mN sv nd wr tl lt lT lD gv gn od br)]) := by rw [← ew2]; exact hD
    exact W.iret (v := (-1)) hx hb hr (fun t ht hW => by subst hAe; exact ⟨⟨(-1), (), rfl, (if_neg hC).symm, by rw [ht]; exact hP, va_K.moved hW.alike hK, hD⟩, hS.F ht⟩) (by subst hAe; exact hS.2.2) d_O_job_10

abbrev b_O_needs : ByteArray := prog_9_method_28_code
def y_O_needs : MethodName := ⟨"PartShelvesModel", "needs", "(III)Z"⟩
theorem d_O_needs_0 : decode b_O_needs 0 = .ok (.iload_n 1, 1) := by decide +kernel
theorem d_O_needs_1 : decode b_O_needs 1 = .ok (.ifCond .lt 30, 3) := by decide +kernel
theorem d_O_needs_4 : decode b_O_needs 4 = .ok (.iload_n 1, 1) := by decide +kernel
theorem d_O_needs_5 : decode b_O_needs 5 = .ok (.aload_n 0, 1) := by decide +kernel
theorem d_O_needs_6 : decode b_O_needs 6 = .ok (.getfield 159, 3) := by decide +kernel
theorem d_O_needs_9 : decode b_O_needs 9 = .ok (.if_icmp .ge 22, 3) := by decide +kernel
theorem d_O_needs_12 : decode b_O_needs 12 = .ok (.iload_n 2, 1) := by decide +kernel
theorem d_O_needs_13 : decode b_O_needs 13 = .ok (.invokestatic 102, 3) := by decide +kernel
theorem d_O_needs_16 : decode b_O_needs 16 = .ok (.ifCond .eq 15, 3) := by decide +kernel
theorem d_O_needs_19 : decode b_O_needs 19 = .ok (.iload_n 3, 1) := by decide +kernel
theorem d_O_needs_20 : decode b_O_needs 20 = .ok (.i2l, 1) := by decide +kernel
theorem d_O_needs_21 : decode b_O_needs 21 = .ok (.lconst 0, 1) := by decide +kernel
theorem d_O_needs_22 : decode b_O_needs 22 = .ok (.ldc2_w 162, 3) := by decide +kernel
theorem d_O_needs_25 : decode b_O_needs 25 = .ok (.invokestatic 93, 3) := by decide +kernel
theorem d_O_needs_28 : decode b_O_needs 28 = .ok (.ifCond .ne 5, 3) := by decide +kernel
theorem d_O_needs_31 : decode b_O_needs 31 = .ok (.iconst 0, 1) := by decide +kernel
theorem d_O_needs_32 : decode b_O_needs 32 = .ok (.ireturn, 1) := by decide +kernel
theorem d_O_needs_33 : decode b_O_needs 33 = .ok (.aload_n 0, 1) := by decide +kernel
theorem d_O_needs_34 : decode b_O_needs 34 = .ok (.getfield 51, 3) := by decide +kernel
theorem d_O_needs_37 : decode b_O_needs 37 = .ok (.bipush 6, 2) := by decide +kernel
theorem d_O_needs_39 : decode b_O_needs 39 = .ok (.iload_n 1, 1) := by decide +kernel
theorem d_O_needs_40 : decode b_O_needs 40 = .ok (.imul, 1) := by decide +kernel
theorem d_O_needs_41 : decode b_O_needs 41 = .ok (.iload_n 2, 1) := by decide +kernel
theorem d_O_needs_42 : decode b_O_needs 42 = .ok (.iadd, 1) := by decide +kernel
theorem d_O_needs_43 : decode b_O_needs 43 = .ok (.iload_n 3, 1) := by decide +kernel
theorem d_O_needs_44 : decode b_O_needs 44 = .ok (.iastore, 1) := by decide +kernel
theorem d_O_needs_45 : decode b_O_needs 45 = .ok (.iconst 1, 1) := by decide +kernel
theorem d_O_needs_46 : decode b_O_needs 46 = .ok (.ireturn, 1) := by decide +kernel
def w_O_needs : List Cond := .code y_O_needs b_O_needs 4 (some .boolean) :: ([.fieldLink "PartShelvesModel" 159 "PartShelvesModel" "jobs" "I", .methodLink "PartShelvesModel" 102 ⟨"PartShelvesModel", "isKind", "(I)Z"⟩, .static ⟨"PartShelvesModel", "isKind", "(I)Z"⟩, .initialized "PartShelvesModel", .code ⟨"PartShelvesModel", "isKind", "(I)Z"⟩ prog_9_method_4_code 1 (some .boolean), .constantLong "PartShelvesModel" 162 3, .methodLink "PartShelvesModel" 93 ⟨"PartShelvesModel", "isIn", "(JJJ)Z"⟩, .static ⟨"PartShelvesModel", "isIn", "(JJJ)Z"⟩, .code ⟨"PartShelvesModel", "isIn", "(JJJ)Z"⟩ prog_9_method_3_code 6 (some .boolean), .fieldLink "PartShelvesModel" 51 "PartShelvesModel" "needed" "[I"] ++ u_ws R_O F_O 36)
set_option maxRecDepth 20000 in
theorem g_O_needs_isKind : GoodIn w_O_needs (wsS R_O 102 y_O_isKind w_O_isKind) := goodIn_p _ [5] rfl (by decide +kernel)
set_option maxRecDepth 20000 in
theorem g_O_needs_isIn : GoodIn w_O_needs (wsS R_O 93 y_O_isIn w_O_isIn) := goodIn_p _ [9] rfl (by decide +kernel)
set_option maxHeartbeats 4000000 in
set_option maxRecDepth 100000 in
theorem c_O_needs (l : Launch) (D : va_G) (kC : Nat → ClassId) (ad : Nat → Nat) (td : Nat) (rn : Nat) (pn : Nat) (an : Nat) (jn : Nat) (tn : Nat) (bm : Int32) (fw : Int64) (gp : Nat) (ga : Nat) (bp : Int32) (fc : Int64) (fj : Nat) (rA : Nat → Nat) (rC : Nat → Nat) (ft : Nat → Int32) (kd : Nat → Nat) (aG : Nat → Nat) (sR : Nat → Nat) (sT : Nat → Nat) (wh : Nat → Nat) (dY : Nat → Nat) (pd : Nat → Nat) (cN : Nat → Nat) (mN : Nat → Nat) (sv : Nat → Int32) (nd : Nat → Nat) (wr : Nat → Nat) (tl : Nat → Nat) (lt : Nat → Int32) (lT : Nat → Nat) (lD : Nat → Nat) (gv : Nat → Int32) (gn : Nat → Int64) (od : Nat → Nat) (br : Nat → Nat) (x : Int32) (y : Int32) (z : Int32) (sz : Nat) (hjn : jn ≤ 6) : Met l y_O_needs w_O_needs ({ frames := 1, cells := 0, slots := 0, locals := 25 } : Room) (gPre cls D (tyL kC) [.ref (ad 0), .int x, .int y, .int z] (fl [(wO kC ad td rn pn an jn tn bm fw gp ga bp fc fj rA rC ft kd aG sR sT wh dY pd cN mN sv nd wr tl lt lT lD gv gn od br)]) sz) (gQi cls D (tyL kC) (fl [(wO kC ad td rn pn an jn tn bm fw gp ga bp fc fj rA rC ft kd aG sR sT wh dY pd cN mN sv nd wr tl lt lT lD gv gn od br)]) sz (bI (inR x jn ∧ inR y 6 ∧ inI 0 3 z)) (fl [(wO kC ad td rn pn an jn tn bm fw gp ga bp fc fj rA rC ft kd aG sR sT wh dY pd cN mN sv (if (inR x jn ∧ inR y 6 ∧ inI 0 3 z) then updN nd (6 * nOf x + nOf y) (nOf z) else nd) wr tl lt lT lD gv gn od br)])) 0 0 (va_A (fl [(wO kC ad td rn pn an jn tn bm fw gp ga bp fc fj rA rC ft kd aG sR sT wh dY pd cN mN sv nd wr tl lt lT lD gv gn od br)]) sz) := by
  refine Met.ofW (cc := b_O_needs) (maxL := 4) (ret := (some .boolean)) (by decide) rfl ?_
  intro p e s m args below meth c s₁ B hml hv
  obtain ⟨rfl, hsz, hP, hK, hD0⟩ := hv
  have hx := B.exec
  have hb := B.bytes
  have hr := B.returns
  have hts := atoms_spec (ws := w_O_needs) B.pre
  have hown : s.vm.findClass R_O = some m.cls := findClass_of_methodNamed B.named
  have hlocks := B.notSynchronized
  subst hsz
  obtain ⟨A, hAe⟩ : ∃ A : Nat → Prop, A = va_A (fl [(wO kC ad td rn pn an jn tn bm fw gp ga bp fc fj rA rC ft kd aG sR sT wh dY pd cN mN sv nd wr tl lt lT lD gv gn od br)]) s.heap.size := ⟨_, rfl⟩
  have hD : va_D A (fl [(wO kC ad td rn pn an jn tn bm fw gp ga bp fc fj rA rC ft kd aG sR sT wh dY pd cN mN sv nd wr tl lt lT lD gv gn od br)]) := by rw [hAe]; exact hD0.self
  have hA : ∀ q : Nat, s.heap.size ≤ q → A q := fun q h => by rw [hAe]; exact Or.inr h
  have hS : va_S A s.heap s.heap [] := va_S.rf
  have hl := lv_entry ([.ref (ad 0), .int x, .int y, .int z]) (n := 4) (Nat.le_of_ble_eq_true rfl)
  rw [lg_entry_eq]
  generalize (lg_sl ([.ref (ad 0), .int x, .int y, .int z]) ++ List.replicate (4 - (lg_sl ([.ref (ad 0), .int x, .int y, .int z])).length) Slot.unset).toArray = ls at hl ⊢
  have hl : lv_has ls 4 [(0, .ref (ad 0)), (1, .int x), (2, .int y), (3, .int z)] := hl
  refine lv_iload_n hx hb d_O_needs_0 rfl (lv_at hl 1 rfl) ?_
  refine lv_if_lt (tgt := 31) hx hb d_O_needs_1 (by decide) (fun h0 => ?_) (fun h0 => ?_)
  · have hC : ¬ (inR x jn ∧ inR y 6 ∧ inI 0 3 z) := fun q => by first | exact bI_0.mp h3 (inL_i.mpr q.2.2) | exact bI_0.mp h2 q.2.1 | exact inR_ge (by omega) h1 q.1 | exact inR_lt h0 q.1
    refine lv_iconst (v := nI 0) hx hb d_O_needs_31 (by decide) ?_
    have ew1 : nd = (if (inR x jn ∧ inR y 6 ∧ inI 0 3 z) then updN nd (6 * nOf x + nOf y) (nOf z) else nd) := (if_neg hC).symm
    have hP : va_P D cls (fl [(wO kC ad td rn pn an jn tn bm fw gp ga bp fc fj rA rC ft kd aG sR sT wh dY pd cN mN sv (if (inR x jn ∧ inR y 6 ∧ inI 0 3 z) then updN nd (6 * nOf x + nOf y) (nOf z) else nd) wr tl lt lT lD gv gn od br)]) s.heap := by rw [← ew1]; exact hP
    have hD : va_D A (fl [(wO kC ad td rn pn an jn tn bm fw gp ga bp fc fj rA rC ft kd aG sR sT wh dY pd cN mN sv (if (inR x jn ∧ inR y 6 ∧ inI 0 3 z) then updN nd (6 * nOf x + nOf y) (nOf z) else nd) wr tl lt lT lD gv gn od br)]) := by rw [← ew1]; exact hD
    exact W.zret (v := nI 0) hx hb hr (nar_b (by first | exact Or.inl rfl | exact Or.inr rfl | exact bI_01)) (fun t ht hW => by subst hAe; exact ⟨⟨(nI 0), (), rfl, (bI_f hC).symm, by rw [ht]; exact hP, va_K.moved hW.alike hK, hD⟩, hS.F ht⟩) (by subst hAe; exact hS.2.2) d_O_needs_32
  · refine lv_iload_n hx hb d_O_needs_4 rfl (lv_at hl 1 rfl) ?_
    refine lv_aload_n hx hb d_O_needs_5 rfl (lv_at hl 0 rfl) ?_
    refine fv_get (ci := 7) (v := .int (nI jn)) (C := R_O) (T := F_O) (N := 36) hx hb hts (by decide +kernel) hown hK hP 0 0 rfl rfl rfl 17 (by decide) (hts (.fieldLink R_O 159 "PartShelvesModel" "jobs" "I") (by decide +kernel)) (fun _ h9 => h9) rfl d_O_needs_6 ?_
    refine lv_icmp_ge (tgt := 31) hx hb d_O_needs_9 (by decide) (fun h1 => ?_) (fun h1 => ?_)
    · have hC : ¬ (inR x jn ∧ inR y 6 ∧ inI 0 3 z) := fun q => by first | exact bI_0.mp h3 (inL_i.mpr q.2.2) | exact bI_0.mp h2 q.2.1 | exact inR_ge (by omega) h1 q.1 | exact inR_lt h0 q.1
      refine lv_iconst (v := nI 0) hx hb d_O_needs_31 (by decide) ?_
      have ew2 : nd = (if (inR x jn ∧ inR y 6 ∧ inI 0 3 z) then updN nd (6 * nOf x + nOf y) (nOf z) else nd) := (if_neg hC).symm
      have hP : va_P D cls (fl [(wO kC ad td rn pn an jn tn bm fw gp ga bp fc fj rA rC ft kd aG sR sT wh dY pd cN mN sv (if (inR x jn ∧ inR y 6 ∧ inI 0 3 z) then updN nd (6 * nOf x + nOf y) (nOf z) else nd) wr tl lt lT lD gv gn od br)]) s.heap := by rw [← ew2]; exact hP
      have hD : va_D A (fl [(wO kC ad td rn pn an jn tn bm fw gp ga bp fc fj rA rC ft kd aG sR sT wh dY pd cN mN sv (if (inR x jn ∧ inR y 6 ∧ inI 0 3 z) then updN nd (6 * nOf x + nOf y) (nOf z) else nd) wr tl lt lT lD gv gn od br)]) := by rw [← ew2]; exact hD
      exact W.zret (v := nI 0) hx hb hr (nar_b (by first | exact Or.inl rfl | exact Or.inr rfl | exact bI_01)) (fun t ht hW => by subst hAe; exact ⟨⟨(nI 0), (), rfl, (bI_f hC).symm, by rw [ht]; exact hP, va_K.moved hW.alike hK, hD⟩, hS.F ht⟩) (by subst hAe; exact hS.2.2) d_O_needs_32
    · obtain ⟨j, hj, rfl⟩ := in_of (by omega) h0 h1
      refine lv_iload_n hx hb d_O_needs_12 rfl (lv_at hl 2 rfl) ?_
      refine r_calli (W.runS (As := [.int y]) (rest := []) ⟨hx, hb, hml, hown, hts⟩ (c_O_isKind l y) (cwS 1 hts g_O_needs_isKind rfl rfl rfl (by decide +kernel) ⟨Nat.le_of_ble_eq_true rfl, Nat.le_of_ble_eq_true rfl⟩) p0_preS rfl rfl hl.1 rfl (lv_room (Nat.le_of_ble_eq_true rfl)) d_O_needs_13 ⟨Nat.le_of_ble_eq_true rfl, Nat.le_of_ble_eq_true rfl⟩) ?_
      refine lv_if_eq (tgt := 31) hx hb d_O_needs_16 (by decide) (fun h2 => ?_) (fun h2 => ?_)
      · have hC : ¬ (inR (nI j) jn ∧ inR y 6 ∧ inI 0 3 z) := fun q => by first | exact bI_0.mp h3 (inL_i.mpr q.2.2) | exact bI_0.mp h2 q.2.1 | exact inR_ge (by omega) h1 q.1 | exact inR_lt h0 q.1
        refine lv_iconst (v := nI 0) hx hb d_O_needs_31 (by decide) ?_
        have ew3 : nd = (if (inR (nI j) jn ∧ inR y 6 ∧ inI 0 3 z) then updN nd (6 * nOf (nI j) + nOf y) (nOf z) else nd) := (if_neg hC).symm
        have hP : va_P D cls (fl [(wO kC ad td rn pn an jn tn bm fw gp ga bp fc fj rA rC ft kd aG sR sT wh dY pd cN mN sv (if (inR (nI j) jn ∧ inR y 6 ∧ inI 0 3 z) then updN nd (6 * nOf (nI j) + nOf y) (nOf z) else nd) wr tl lt lT lD gv gn od br)]) s.heap := by rw [← ew3]; exact hP
        have hD : va_D A (fl [(wO kC ad td rn pn an jn tn bm fw gp ga bp fc fj rA rC ft kd aG sR sT wh dY pd cN mN sv (if (inR (nI j) jn ∧ inR y 6 ∧ inI 0 3 z) then updN nd (6 * nOf (nI j) + nOf y) (nOf z) else nd) wr tl lt lT lD gv gn od br)]) := by rw [← ew3]; exact hD
        exact W.zret (v := nI 0) hx hb hr (nar_b (by first | exact Or.inl rfl | exact Or.inr rfl | exact bI_01)) (fun t ht hW => by subst hAe; exact ⟨⟨(nI 0), (), rfl, (bI_f hC).symm, by rw [ht]; exact hP, va_K.moved hW.alike hK, hD⟩, hS.F ht⟩) (by subst hAe; exact hS.2.2) d_O_needs_32
      · have h2 := bI_n0.mp h2
        refine lv_iload_n hx hb d_O_needs_19 rfl (lv_at hl 3 rfl) ?_
        refine lv_i2l hx hb d_O_needs_20 rfl ?_
        refine lv_lconst (v := lN 0) hx hb d_O_needs_21 (by decide) ?_
        refine lv_ldc2 (v := 3) hx hb hown (hts (.constantLong R_O 162 3) (by decide +kernel)) d_O_needs_22 ?_
        refine nv_topl (y := lN 3) (by decide +kernel) ?_
        refine r_calli (W.runS (As := [.long z.toInt64, .long (lN 0), .long (lN 3)]) (rest := []) ⟨hx, hb, hml, hown, hts⟩ (c_O_isIn l z.toInt64 0 3 (by decide) (by decide)) (cwS 3 hts g_O_needs_isIn rfl rfl rfl (by decide +kernel) ⟨Nat.le_of_ble_eq_true rfl, Nat.le_of_ble_eq_true rfl⟩) p0_preS rfl rfl hl.1 rfl (lv_room (Nat.le_of_ble_eq_true rfl)) d_O_needs_25 ⟨Nat.le_of_ble_eq_true rfl, Nat.le_of_ble_eq_true rfl⟩) ?_
        refine lv_if_ne (tgt := 33) hx hb d_O_needs_28 (by decide) (fun h3 => ?_) (fun h3 => ?_)
        · have h3 := inL_i.mp (bI_n0.mp h3)
          have hC : (inR (nI j) jn ∧ inR y 6 ∧ inI 0 3 z) := ⟨(inR_nI (by omega)).mpr hj, h2, h3⟩
          obtain ⟨k, hk, rfl⟩ := inR_n (by decide) h2
          obtain ⟨i, hi1, hi2, rfl⟩ := inI_n (by decide) h3
          refine lv_aload_n hx hb d_O_needs_33 rfl (lv_at hl 0 rfl) ?_
          refine fv_get (ci := 7) (v := .ref (ad 14)) (C := R_O) (T := F_O) (N := 36) hx hb hts (by decide +kernel) hown hK hP 0 0 rfl rfl rfl 18 (by decide) (hts (.fieldLink R_O 51 "PartShelvesModel" "needed" "[I") (by decide +kernel)) (fun _ h9 => h9) rfl d_O_needs_34 ?_
          refine lv_bipush (v := nI 6) hx hb d_O_needs_37 (by decide +kernel) ?_
          refine lv_iload_n hx hb d_O_needs_39 rfl (lv_at hl 1 rfl) ?_
          refine nv_imul hx hb d_O_needs_40 ?_
          refine lv_iload_n hx hb d_O_needs_41 rfl (lv_at hl 2 rfl) ?_
          refine nv_iadd hx hb d_O_needs_42 ?_
          refine lv_iload_n hx hb d_O_needs_43 rfl (lv_at hl 3 rfl) ?_
          refine fa_iastN hx hb hK hP hD hS 0 14 0 rfl rfl rfl (by omega) (by decide) d_O_needs_44 (fun H locs hP hD hS => ?_)
          have hP : va_P D cls (fl [(wO kC ad td rn pn an jn tn bm fw gp ga bp fc fj rA rC ft kd aG sR sT wh dY pd cN mN sv (updN nd (6 * j + k) i) wr tl lt lT lD gv gn od br)]) H := hP
          have hD : va_D A (fl [(wO kC ad td rn pn an jn tn bm fw gp ga bp fc fj rA rC ft kd aG sR sT wh dY pd cN mN sv (updN nd (6 * j + k) i) wr tl lt lT lD gv gn od br)]) := hD
          refine lv_iconst (v := nI 1) hx hb d_O_needs_45 (by decide) ?_
          have ew4 : (updN nd (6 * j + k) i) = (if (inR (nI j) jn ∧ inR (nI k) 6 ∧ inI 0 3 (nI i)) then updN nd (6 * nOf (nI j) + nOf (nI k)) (nOf (nI i)) else nd) := by rw [if_pos hC, nOf_nI (by omega), nOf_nI (by omega), nOf_nI (by omega)]
          have hP : va_P D cls (fl [(wO kC ad td rn pn an jn tn bm fw gp ga bp fc fj rA rC ft kd aG sR sT wh dY pd cN mN sv (if (inR (nI j) jn ∧ inR (nI k) 6 ∧ inI 0 3 (nI i)) then updN nd (6 * nOf (nI j) + nOf (nI k)) (nOf (nI i)) else nd) wr tl lt lT lD gv gn od br)]) H := by rw [← ew4]; exact hP
          have hD : va_D A (fl [(wO kC ad td rn pn an jn tn bm fw gp ga bp fc fj rA rC ft kd aG sR sT wh dY pd cN mN sv (if (inR (nI j) jn ∧ inR (nI k) 6 ∧ inI 0 3 (nI i)) then updN nd (6 * nOf (nI j) + nOf (nI k)) (nOf (nI i)) else nd) wr tl lt lT lD gv gn od br)]) := by rw [← ew4]; exact hD
          exact W.zret (v := nI 1) hx hb hr (nar_b (by first | exact Or.inl rfl | exact Or.inr rfl | exact bI_01)) (fun t ht hW => by subst hAe; exact ⟨⟨(nI 1), (), rfl, (bI_t hC).symm, by rw [ht]; exact hP, va_K.moved hW.alike hK, hD⟩, hS.F ht⟩) (by subst hAe; exact hS.2.2) d_O_needs_46
        · have hC : ¬ (inR (nI j) jn ∧ inR y 6 ∧ inI 0 3 z) := fun q => by first | exact bI_0.mp h3 (inL_i.mpr q.2.2) | exact bI_0.mp h2 q.2.1 | exact inR_ge (by omega) h1 q.1 | exact inR_lt h0 q.1
          refine lv_iconst (v := nI 0) hx hb d_O_needs_31 (by decide) ?_
          have ew5 : nd = (if (inR (nI j) jn ∧ inR y 6 ∧ inI 0 3 z) then updN nd (6 * nOf (nI j) + nOf y) (nOf z) else nd) := (if_neg hC).symm
          have hP : va_P D cls (fl [(wO kC ad td rn pn an jn tn bm fw gp ga bp fc fj rA rC ft kd aG sR sT wh dY pd cN mN sv (if (inR (nI j) jn ∧ inR y 6 ∧ inI 0 3 z) then updN nd (6 * nOf (nI j) + nOf y) (nOf z) else nd) wr tl lt lT lD gv gn od br)]) s.heap := by rw [← ew5]; exact hP
          have hD : va_D A (fl [(wO kC ad td rn pn an jn tn bm fw gp ga bp fc fj rA rC ft kd aG sR sT wh dY pd cN mN sv (if (inR (nI j) jn ∧ inR y 6 ∧ inI 0 3 z) then updN nd (6 * nOf (nI j) + nOf y) (nOf z) else nd) wr tl lt lT lD gv gn od br)]) := by rw [← ew5]; exact hD
          exact W.zret (v := nI 0) hx hb hr (nar_b (by first | exact Or.inl rfl | exact Or.inr rfl | exact bI_01)) (fun t ht hW => by subst hAe; exact ⟨⟨(nI 0), (), rfl, (bI_f hC).symm, by rw [ht]; exact hP, va_K.moved hW.alike hK, hD⟩, hS.F ht⟩) (by subst hAe; exact hS.2.2) d_O_needs_32

abbrev b_O_does : ByteArray := prog_9_method_34_code
def y_O_does : MethodName := ⟨"PartShelvesModel", "does", "(I)Z"⟩
theorem d_O_does_0 : decode b_O_does 0 = .ok (.iload_n 1, 1) := by decide +kernel
theorem d_O_does_1 : decode b_O_does 1 = .ok (.ifCond .lt 25, 3) := by decide +kernel
theorem d_O_does_4 : decode b_O_does 4 = .ok (.iload_n 1, 1) := by decide +kernel
theorem d_O_does_5 : decode b_O_does 5 = .ok (.bipush 6, 2) := by decide +kernel
theorem d_O_does_7 : decode b_O_does 7 = .ok (.if_icmp .ge 19, 3) := by decide +kernel
theorem d_O_does_10 : decode b_O_does 10 = .ok (.aload_n 0, 1) := by decide +kernel
theorem d_O_does_11 : decode b_O_does 11 = .ok (.getfield 177, 3) := by decide +kernel
theorem d_O_does_14 : decode b_O_does 14 = .ok (.iload_n 1, 1) := by decide +kernel
theorem d_O_does_15 : decode b_O_does 15 = .ok (.ishr, 1) := by decide +kernel
theorem d_O_does_16 : decode b_O_does 16 = .ok (.iconst 1, 1) := by decide +kernel
theorem d_O_does_17 : decode b_O_does 17 = .ok (.iand, 1) := by decide +kernel
theorem d_O_does_18 : decode b_O_does 18 = .ok (.iconst 1, 1) := by decide +kernel
theorem d_O_does_19 : decode b_O_does 19 = .ok (.if_icmp .ne 7, 3) := by decide +kernel
theorem d_O_does_22 : decode b_O_does 22 = .ok (.iconst 1, 1) := by decide +kernel
theorem d_O_does_23 : decode b_O_does 23 = .ok (.goto 4, 3) := by decide +kernel
theorem d_O_does_26 : decode b_O_does 26 = .ok (.iconst 0, 1) := by decide +kernel
theorem d_O_does_27 : decode b_O_does 27 = .ok (.ireturn, 1) := by decide +kernel
def w_O_does : List Cond := .code y_O_does b_O_does 2 (some .boolean) :: ([.fieldLink "PartShelvesModel" 177 "PartShelvesModel" "foundJobs" "I"] ++ u_ws R_O F_O 36)
set_option maxHeartbeats 4000000 in
set_option maxRecDepth 100000 in
theorem c_O_does (l : Launch) (D : va_G) (kC : Nat → ClassId) (ad : Nat → Nat) (td : Nat) (rn : Nat) (pn : Nat) (an : Nat) (jn : Nat) (tn : Nat) (bm : Int32) (fw : Int64) (gp : Nat) (ga : Nat) (bp : Int32) (fc : Int64) (fj : Nat) (rA : Nat → Nat) (rC : Nat → Nat) (ft : Nat → Int32) (kd : Nat → Nat) (aG : Nat → Nat) (sR : Nat → Nat) (sT : Nat → Nat) (wh : Nat → Nat) (dY : Nat → Nat) (pd : Nat → Nat) (cN : Nat → Nat) (mN : Nat → Nat) (sv : Nat → Int32) (nd : Nat → Nat) (wr : Nat → Nat) (tl : Nat → Nat) (lt : Nat → Int32) (lT : Nat → Nat) (lD : Nat → Nat) (gv : Nat → Int32) (gn : Nat → Int64) (od : Nat → Nat) (br : Nat → Nat) (x : Int32) (hfj : fj < 64) : Met l y_O_does w_O_does ({ frames := 0, cells := 0, slots := 0, locals := 0 } : Room) (gPr cls D (tyL kC) [.ref (ad 0), .int x] (fl [(wO kC ad td rn pn an jn tn bm fw gp ga bp fc fj rA rC ft kd aG sR sT wh dY pd cN mN sv nd wr tl lt lT lD gv gn od br)])) (vp_Si (fun r => r = bI (inR x 6 ∧ fj / 2 ^ nOf x % 2 = 1))) 0 0 (fun _ => False) := by
  refine Met.ofW (cc := b_O_does) (maxL := 2) (ret := (some .boolean)) (by decide) rfl ?_
  intro p e s m args below meth c s₁ B hml hv
  obtain ⟨rfl, hP, hK⟩ := hv
  have hx := B.exec
  have hb := B.bytes
  have hr := B.returns
  have hts := atoms_spec (ws := w_O_does) B.pre
  have hown : s.vm.findClass R_O = some m.cls := findClass_of_methodNamed B.named
  have hlocks := B.notSynchronized
  have hl := lv_entry ([.ref (ad 0), .int x]) (n := 2) (Nat.le_of_ble_eq_true rfl)
  rw [lg_entry_eq]
  generalize (lg_sl ([.ref (ad 0), .int x]) ++ List.replicate (2 - (lg_sl ([.ref (ad 0), .int x])).length) Slot.unset).toArray = ls at hl ⊢
  have hl : lv_has ls 2 [(0, .ref (ad 0)), (1, .int x)] := hl
  refine lv_iload_n hx hb d_O_does_0 rfl (lv_at hl 1 rfl) ?_
  refine lv_if_lt (tgt := 26) hx hb d_O_does_1 (by decide) (fun h0 => ?_) (fun h0 => ?_)
  · refine lv_iconst (v := nI 0) hx hb d_O_does_26 (by decide) ?_
    exact W.zret (v := nI 0) hx hb hr (nar_b (by first | exact Or.inl rfl | exact Or.inr rfl | exact bI_01)) (fun t ht hW => ⟨_, rfl, (bI_f (fun q => by first | (have q2 := q.2; rw [nOf_nI (by omega)] at q2; exact h2 q2) | exact inR_ge (by decide) h1 q.1 | exact inR_lt h0 q.1)).symm, ht⟩) t_nil d_O_does_27
  · refine lv_iload_n hx hb d_O_does_4 rfl (lv_at hl 1 rfl) ?_
    refine lv_bipush (v := nI 6) hx hb d_O_does_5 (by decide +kernel) ?_
    refine lv_icmp_ge (tgt := 26) hx hb d_O_does_7 (by decide) (fun h1 => ?_) (fun h1 => ?_)
    · refine lv_iconst (v := nI 0) hx hb d_O_does_26 (by decide) ?_
      exact W.zret (v := nI 0) hx hb hr (nar_b (by first | exact Or.inl rfl | exact Or.inr rfl | exact bI_01)) (fun t ht hW => ⟨_, rfl, (bI_f (fun q => by first | (have q2 := q.2; rw [nOf_nI (by omega)] at q2; exact h2 q2) | exact inR_ge (by decide) h1 q.1 | exact inR_lt h0 q.1)).symm, ht⟩) t_nil d_O_does_27
    · obtain ⟨j, hj, rfl⟩ := in_of (by decide) h0 h1
      refine lv_aload_n hx hb d_O_does_10 rfl (lv_at hl 0 rfl) ?_
      refine fv_get (ci := 7) (v := .int (nI fj)) (C := R_O) (T := F_O) (N := 36) hx hb hts (by decide +kernel) hown hK hP 0 0 rfl rfl rfl 33 (by decide) (hts (.fieldLink R_O 177 "PartShelvesModel" "foundJobs" "I") (by decide +kernel)) (fun _ h9 => h9) rfl d_O_does_11 ?_
      refine lv_iload_n hx hb d_O_does_14 rfl (lv_at hl 1 rfl) ?_
      refine lv_ishr hx hb d_O_does_15 ?_
      refine lv_iconst (v := nI 1) hx hb d_O_does_16 (by decide) ?_
      refine lv_iand hx hb d_O_does_17 ?_
      refine nv_topi (y := nI (fj / 2 ^ j % 2)) (bitI (by omega) (by omega)) ?_
      refine lv_iconst (v := nI 1) hx hb d_O_does_18 (by decide) ?_
      refine nv_icmp_ne (tgt := 26) hx hb d_O_does_19 (by decide) (by omega) (by omega) (fun h2 => ?_) (fun h2 => ?_)
      · refine lv_iconst (v := nI 0) hx hb d_O_does_26 (by decide) ?_
        exact W.zret (v := nI 0) hx hb hr (nar_b (by first | exact Or.inl rfl | exact Or.inr rfl | exact bI_01)) (fun t ht hW => ⟨_, rfl, (bI_f (fun q => by first | (have q2 := q.2; rw [nOf_nI (by omega)] at q2; exact h2 q2) | exact inR_ge (by decide) h1 q.1 | exact inR_lt h0 q.1)).symm, ht⟩) t_nil d_O_does_27
      · refine lv_iconst (v := nI 1) hx hb d_O_does_22 (by decide) ?_
        refine lv_goto (tgt := 27) hx hb d_O_does_23 (by decide) ?_
        exact W.zret (v := nI 1) hx hb hr (nar_b (by first | exact Or.inl rfl | exact Or.inr rfl | exact bI_01)) (fun t ht hW => ⟨_, rfl, (bI_t ⟨(inR_nI (by omega)).mpr hj, by rw [nOf_nI (by omega)]; exact h2⟩).symm, ht⟩) t_nil d_O_does_27

abbrev b_O_warranty : ByteArray := prog_9_method_35_code
def y_O_warranty : MethodName := ⟨"PartShelvesModel", "warranty", "(II)Z"⟩
theorem d_O_warranty_0 : decode b_O_warranty 0 = .ok (.iload_n 1, 1) := by decide +kernel
theorem d_O_warranty_1 : decode b_O_warranty 1 = .ok (.invokestatic 102, 3) := by decide +kernel
theorem d_O_warranty_4 : decode b_O_warranty 4 = .ok (.ifCond .eq 15, 3) := by decide +kernel
theorem d_O_warranty_7 : decode b_O_warranty 7 = .ok (.iload_n 2, 1) := by decide +kernel
theorem d_O_warranty_8 : decode b_O_warranty 8 = .ok (.i2l, 1) := by decide +kernel
theorem d_O_warranty_9 : decode b_O_warranty 9 = .ok (.lconst 0, 1) := by decide +kernel
theorem d_O_warranty_10 : decode b_O_warranty 10 = .ok (.ldc2_w 100, 3) := by decide +kernel
theorem d_O_warranty_13 : decode b_O_warranty 13 = .ok (.invokestatic 93, 3) := by decide +kernel
theorem d_O_warranty_16 : decode b_O_warranty 16 = .ok (.ifCond .ne 5, 3) := by decide +kernel
theorem d_O_warranty_19 : decode b_O_warranty 19 = .ok (.iconst 0, 1) := by decide +kernel
theorem d_O_warranty_20 : decode b_O_warranty 20 = .ok (.ireturn, 1) := by decide +kernel
theorem d_O_warranty_21 : decode b_O_warranty 21 = .ok (.aload_n 0, 1) := by decide +kernel
theorem d_O_warranty_22 : decode b_O_warranty 22 = .ok (.getfield 54, 3) := by decide +kernel
theorem d_O_warranty_25 : decode b_O_warranty 25 = .ok (.iload_n 1, 1) := by decide +kernel
theorem d_O_warranty_26 : decode b_O_warranty 26 = .ok (.iload_n 2, 1) := by decide +kernel
theorem d_O_warranty_27 : decode b_O_warranty 27 = .ok (.iastore, 1) := by decide +kernel
theorem d_O_warranty_28 : decode b_O_warranty 28 = .ok (.iconst 1, 1) := by decide +kernel
theorem d_O_warranty_29 : decode b_O_warranty 29 = .ok (.ireturn, 1) := by decide +kernel
def w_O_warranty : List Cond := .code y_O_warranty b_O_warranty 3 (some .boolean) :: ([.methodLink "PartShelvesModel" 102 ⟨"PartShelvesModel", "isKind", "(I)Z"⟩, .static ⟨"PartShelvesModel", "isKind", "(I)Z"⟩, .initialized "PartShelvesModel", .code ⟨"PartShelvesModel", "isKind", "(I)Z"⟩ prog_9_method_4_code 1 (some .boolean), .constantLong "PartShelvesModel" 100 1000, .methodLink "PartShelvesModel" 93 ⟨"PartShelvesModel", "isIn", "(JJJ)Z"⟩, .static ⟨"PartShelvesModel", "isIn", "(JJJ)Z"⟩, .code ⟨"PartShelvesModel", "isIn", "(JJJ)Z"⟩ prog_9_method_3_code 6 (some .boolean), .fieldLink "PartShelvesModel" 54 "PartShelvesModel" "warranties" "[I"] ++ u_ws R_O F_O 36)
set_option maxRecDepth 20000 in
theorem g_O_warranty_isKind : GoodIn w_O_warranty (wsS R_O 102 y_O_isKind w_O_isKind) := goodIn_p _ [4] rfl (by decide +kernel)
set_option maxRecDepth 20000 in
theorem g_O_warranty_isIn : GoodIn w_O_warranty (wsS R_O 93 y_O_isIn w_O_isIn) := goodIn_p _ [8] rfl (by decide +kernel)
set_option maxHeartbeats 4000000 in
set_option maxRecDepth 100000 in
theorem c_O_warranty (l : Launch) (D : va_G) (kC : Nat → ClassId) (ad : Nat → Nat) (td : Nat) (rn : Nat) (pn : Nat) (an : Nat) (jn : Nat) (tn : Nat) (bm : Int32) (fw : Int64) (gp : Nat) (ga : Nat) (bp : Int32) (fc : Int64) (fj : Nat) (rA : Nat → Nat) (rC : Nat → Nat) (ft : Nat → Int32) (kd : Nat → Nat) (aG : Nat → Nat) (sR : Nat → Nat) (sT : Nat → Nat) (wh : Nat → Nat) (dY : Nat → Nat) (pd : Nat → Nat) (cN : Nat → Nat) (mN : Nat → Nat) (sv : Nat → Int32) (nd : Nat → Nat) (wr : Nat → Nat) (tl : Nat → Nat) (lt : Nat → Int32) (lT : Nat → Nat) (lD : Nat → Nat) (gv : Nat → Int32) (gn : Nat → Int64) (od : Nat → Nat) (br : Nat → Nat) (x : Int32) (y : Int32) (sz : Nat) : Met l y_O_warranty w_O_warranty ({ frames := 1, cells := 0, slots := 0, locals := 25 } : Room) (gPre cls D (tyL kC) [.ref (ad 0), .int x, .int y] (fl [(wO kC ad td rn pn an jn tn bm fw gp ga bp fc fj rA rC ft kd aG sR sT wh dY pd cN mN sv nd wr tl lt lT lD gv gn od br)]) sz) (gQi cls D (tyL kC) (fl [(wO kC ad td rn pn an jn tn bm fw gp ga bp fc fj rA rC ft kd aG sR sT wh dY pd cN mN sv nd wr tl lt lT lD gv gn od br)]) sz (bI (inR x 6 ∧ inI 0 1000 y)) (fl [(wO kC ad td rn pn an jn tn bm fw gp ga bp fc fj rA rC ft kd aG sR sT wh dY pd cN mN sv nd (if (inR x 6 ∧ inI 0 1000 y) then updN wr (nOf x) (nOf y) else wr) tl lt lT lD gv gn od br)])) 0 0 (va_A (fl [(wO kC ad td rn pn an jn tn bm fw gp ga bp fc fj rA rC ft kd aG sR sT wh dY pd cN mN sv nd wr tl lt lT lD gv gn od br)]) sz) := by
  refine Met.ofW (cc := b_O_warranty) (maxL := 3) (ret := (some .boolean)) (by decide) rfl ?_
  intro p e s m args below meth c s₁ B hml hv
  obtain ⟨rfl, hsz, hP, hK, hD0⟩ := hv
  have hx := B.exec
  have hb := B.bytes
  have hr := B.returns
  have hts := atoms_spec (ws := w_O_warranty) B.pre
  have hown : s.vm.findClass R_O = some m.cls := findClass_of_methodNamed B.named
  have hlocks := B.notSynchronized
  subst hsz
  obtain ⟨A, hAe⟩ : ∃ A : Nat → Prop, A = va_A (fl [(wO kC ad td rn pn an jn tn bm fw gp ga bp fc fj rA rC ft kd aG sR sT wh dY pd cN mN sv nd wr tl lt lT lD gv gn od br)]) s.heap.size := ⟨_, rfl⟩
  have hD : va_D A (fl [(wO kC ad td rn pn an jn tn bm fw gp ga bp fc fj rA rC ft kd aG sR sT wh dY pd cN mN sv nd wr tl lt lT lD gv gn od br)]) := by rw [hAe]; exact hD0.self
  have hA : ∀ q : Nat, s.heap.size ≤ q → A q := fun q h => by rw [hAe]; exact Or.inr h
  have hS : va_S A s.heap s.heap [] := va_S.rf
  have hl := lv_entry ([.ref (ad 0), .int x, .int y]) (n := 3) (Nat.le_of_ble_eq_true rfl)
  rw [lg_entry_eq]
  generalize (lg_sl ([.ref (ad 0), .int x, .int y]) ++ List.replicate (3 - (lg_sl ([.ref (ad 0), .int x, .int y])).length) Slot.unset).toArray = ls at hl ⊢
  have hl : lv_has ls 3 [(0, .ref (ad 0)), (1, .int x), (2, .int y)] := hl
  refine lv_iload_n hx hb d_O_warranty_0 rfl (lv_at hl 1 rfl) ?_
  refine r_calli (W.runS (As := [.int x]) (rest := []) ⟨hx, hb, hml, hown, hts⟩ (c_O_isKind l x) (cwS 1 hts g_O_warranty_isKind rfl rfl rfl (by decide +kernel) ⟨Nat.le_of_ble_eq_true rfl, Nat.le_of_ble_eq_true rfl⟩) p0_preS rfl rfl hl.1 rfl (lv_room (Nat.le_of_ble_eq_true rfl)) d_O_warranty_1 ⟨Nat.le_of_ble_eq_true rfl, Nat.le_of_ble_eq_true rfl⟩) ?_
  refine lv_if_eq (tgt := 19) hx hb d_O_warranty_4 (by decide) (fun h1 => ?_) (fun h1 => ?_)
  · have hC : ¬ (inR x 6 ∧ inI 0 1000 y) := fun q => by first | exact bI_0.mp h2 (inL_i.mpr q.2) | exact bI_0.mp h1 q.1
    refine lv_iconst (v := nI 0) hx hb d_O_warranty_19 (by decide) ?_
    have ew1 : wr = (if (inR x 6 ∧ inI 0 1000 y) then updN wr (nOf x) (nOf y) else wr) := (if_neg hC).symm
    have hP : va_P D cls (fl [(wO kC ad td rn pn an jn tn bm fw gp ga bp fc fj rA rC ft kd aG sR sT wh dY pd cN mN sv nd (if (inR x 6 ∧ inI 0 1000 y) then updN wr (nOf x) (nOf y) else wr) tl lt lT lD gv gn od br)]) s.heap := by rw [← ew1]; exact hP
    have hD : va_D A (fl [(wO kC ad td rn pn an jn tn bm fw gp ga bp fc fj rA rC ft kd aG sR sT wh dY pd cN mN sv nd (if (inR x 6 ∧ inI 0 1000 y) then updN wr (nOf x) (nOf y) else wr) tl lt lT lD gv gn od br)]) := by rw [← ew1]; exact hD
    exact W.zret (v := nI 0) hx hb hr (nar_b (by first | exact Or.inl rfl | exact Or.inr rfl | exact bI_01)) (fun t ht hW => by subst hAe; exact ⟨⟨(nI 0), (), rfl, (bI_f hC).symm, by rw [ht]; exact hP, va_K.moved hW.alike hK, hD⟩, hS.F ht⟩) (by subst hAe; exact hS.2.2) d_O_warranty_20
  · refine lv_iload_n hx hb d_O_warranty_7 rfl (lv_at hl 2 rfl) ?_
    refine lv_i2l hx hb d_O_warranty_8 rfl ?_
    refine lv_lconst (v := lN 0) hx hb d_O_warranty_9 (by decide) ?_
    refine lv_ldc2 (v := 1000) hx hb hown (hts (.constantLong R_O 100 1000) (by decide +kernel)) d_O_warranty_10 ?_
    refine nv_topl (y := lN 1000) (by decide +kernel) ?_
    refine r_calli (W.runS (As := [.long y.toInt64, .long (lN 0), .long (lN 1000)]) (rest := []) ⟨hx, hb, hml, hown, hts⟩ (c_O_isIn l y.toInt64 0 1000 (by decide) (by decide)) (cwS 3 hts g_O_warranty_isIn rfl rfl rfl (by decide +kernel) ⟨Nat.le_of_ble_eq_true rfl, Nat.le_of_ble_eq_true rfl⟩) p0_preS rfl rfl hl.1 rfl (lv_room (Nat.le_of_ble_eq_true rfl)) d_O_warranty_13 ⟨Nat.le_of_ble_eq_true rfl, Nat.le_of_ble_eq_true rfl⟩) ?_
    refine lv_if_ne (tgt := 21) hx hb d_O_warranty_16 (by decide) (fun h2 => ?_) (fun h2 => ?_)
    · have h1 := bI_n0.mp h1
      have h2 := inL_i.mp (bI_n0.mp h2)
      have hC : (inR x 6 ∧ inI 0 1000 y) := ⟨h1, h2⟩
      obtain ⟨j, hj, rfl⟩ := inR_n (by decide) h1
      obtain ⟨k, hk1, hk2, rfl⟩ := inI_n (by decide) h2
      refine lv_aload_n hx hb d_O_warranty_21 rfl (lv_at hl 0 rfl) ?_
      refine fv_get (ci := 7) (v := .ref (ad 15)) (C := R_O) (T := F_O) (N := 36) hx hb hts (by decide +kernel) hown hK hP 0 0 rfl rfl rfl 19 (by decide) (hts (.fieldLink R_O 54 "PartShelvesModel" "warranties" "[I") (by decide +kernel)) (fun _ h9 => h9) rfl d_O_warranty_22 ?_
      refine lv_iload_n hx hb d_O_warranty_25 rfl (lv_at hl 1 rfl) ?_
      refine lv_iload_n hx hb d_O_warranty_26 rfl (lv_at hl 2 rfl) ?_
      refine fa_iastN hx hb hK hP hD hS 0 15 0 rfl rfl rfl (by omega) (by decide) d_O_warranty_27 (fun H locs hP hD hS => ?_)
      have hP : va_P D cls (fl [(wO kC ad td rn pn an jn tn bm fw gp ga bp fc fj rA rC ft kd aG sR sT wh dY pd cN mN sv nd (updN wr j k) tl lt lT lD gv gn od br)]) H := hP
      have hD : va_D A (fl [(wO kC ad td rn pn an jn tn bm fw gp ga bp fc fj rA rC ft kd aG sR sT wh dY pd cN mN sv nd (updN wr j k) tl lt lT lD gv gn od br)]) := hD
      refine lv_iconst (v := nI 1) hx hb d_O_warranty_28 (by decide) ?_
      have ew2 : (updN wr j k) = (if (inR (nI j) 6 ∧ inI 0 1000 (nI k)) then updN wr (nOf (nI j)) (nOf (nI k)) else wr) := by rw [if_pos hC, nOf_nI (by omega), nOf_nI (by omega)]
      have hP : va_P D cls (fl [(wO kC ad td rn pn an jn tn bm fw gp ga bp fc fj rA rC ft kd aG sR sT wh dY pd cN mN sv nd (if (inR (nI j) 6 ∧ inI 0 1000 (nI k)) then updN wr (nOf (nI j)) (nOf (nI k)) else wr) tl lt lT lD gv gn od br)]) H := by rw [← ew2]; exact hP
      have hD : va_D A (fl [(wO kC ad td rn pn an jn tn bm fw gp ga bp fc fj rA rC ft kd aG sR sT wh dY pd cN mN sv nd (if (inR (nI j) 6 ∧ inI 0 1000 (nI k)) then updN wr (nOf (nI j)) (nOf (nI k)) else wr) tl lt lT lD gv gn od br)]) := by rw [← ew2]; exact hD
      exact W.zret (v := nI 1) hx hb hr (nar_b (by first | exact Or.inl rfl | exact Or.inr rfl | exact bI_01)) (fun t ht hW => by subst hAe; exact ⟨⟨(nI 1), (), rfl, (bI_t hC).symm, by rw [ht]; exact hP, va_K.moved hW.alike hK, hD⟩, hS.F ht⟩) (by subst hAe; exact hS.2.2) d_O_warranty_29
    · have hC : ¬ (inR x 6 ∧ inI 0 1000 y) := fun q => by first | exact bI_0.mp h2 (inL_i.mpr q.2) | exact bI_0.mp h1 q.1
      refine lv_iconst (v := nI 0) hx hb d_O_warranty_19 (by decide) ?_
      have ew3 : wr = (if (inR x 6 ∧ inI 0 1000 y) then updN wr (nOf x) (nOf y) else wr) := (if_neg hC).symm
      have hP : va_P D cls (fl [(wO kC ad td rn pn an jn tn bm fw gp ga bp fc fj rA rC ft kd aG sR sT wh dY pd cN mN sv nd (if (inR x 6 ∧ inI 0 1000 y) then updN wr (nOf x) (nOf y) else wr) tl lt lT lD gv gn od br)]) s.heap := by rw [← ew3]; exact hP
      have hD : va_D A (fl [(wO kC ad td rn pn an jn tn bm fw gp ga bp fc fj rA rC ft kd aG sR sT wh dY pd cN mN sv nd (if (inR x 6 ∧ inI 0 1000 y) then updN wr (nOf x) (nOf y) else wr) tl lt lT lD gv gn od br)]) := by rw [← ew3]; exact hD
      exact W.zret (v := nI 0) hx hb hr (nar_b (by first | exact Or.inl rfl | exact Or.inr rfl | exact bI_01)) (fun t ht hW => by subst hAe; exact ⟨⟨(nI 0), (), rfl, (bI_f hC).symm, by rw [ht]; exact hP, va_K.moved hW.alike hK, hD⟩, hS.F ht⟩) (by subst hAe; exact hS.2.2) d_O_warranty_20

abbrev b_O_returned : ByteArray := prog_9_method_36_code
def y_O_returned : MethodName := ⟨"PartShelvesModel", "returned", "(I)Z"⟩
theorem d_O_returned_0 : decode b_O_returned 0 = .ok (.aload_n 0, 1) := by decide +kernel
theorem d_O_returned_1 : decode b_O_returned 1 = .ok (.iload_n 1, 1) := by decide +kernel
theorem d_O_returned_2 : decode b_O_returned 2 = .ok (.invokevirtual 108, 3) := by decide +kernel
theorem d_O_returned_5 : decode b_O_returned 5 = .ok (.ifCond .eq 38, 3) := by decide +kernel
theorem d_O_returned_8 : decode b_O_returned 8 = .ok (.aload_n 0, 1) := by decide +kernel
theorem d_O_returned_9 : decode b_O_returned 9 = .ok (.getfield 30, 3) := by decide +kernel
theorem d_O_returned_12 : decode b_O_returned 12 = .ok (.iload_n 1, 1) := by decide +kernel
theorem d_O_returned_13 : decode b_O_returned 13 = .ok (.iaload, 1) := by decide +kernel
theorem d_O_returned_14 : decode b_O_returned 14 = .ok (.iconst 2, 1) := by decide +kernel
theorem d_O_returned_15 : decode b_O_returned 15 = .ok (.if_icmp .ne 28, 3) := by decide +kernel
theorem d_O_returned_18 : decode b_O_returned 18 = .ok (.aload_n 0, 1) := by decide +kernel
theorem d_O_returned_19 : decode b_O_returned 19 = .ok (.getfield 88, 3) := by decide +kernel
theorem d_O_returned_22 : decode b_O_returned 22 = .ok (.aload_n 0, 1) := by decide +kernel
theorem d_O_returned_23 : decode b_O_returned 23 = .ok (.getfield 36, 3) := by decide +kernel
theorem d_O_returned_26 : decode b_O_returned 26 = .ok (.iload_n 1, 1) := by decide +kernel
theorem d_O_returned_27 : decode b_O_returned 27 = .ok (.iaload, 1) := by decide +kernel
theorem d_O_returned_28 : decode b_O_returned 28 = .ok (.isub, 1) := by decide +kernel
theorem d_O_returned_29 : decode b_O_returned 29 = .ok (.aload_n 0, 1) := by decide +kernel
theorem d_O_returned_30 : decode b_O_returned 30 = .ok (.getfield 54, 3) := by decide +kernel
theorem d_O_returned_33 : decode b_O_returned 33 = .ok (.aload_n 0, 1) := by decide +kernel
theorem d_O_returned_34 : decode b_O_returned 34 = .ok (.getfield 21, 3) := by decide +kernel
theorem d_O_returned_37 : decode b_O_returned 37 = .ok (.iload_n 1, 1) := by decide +kernel
theorem d_O_returned_38 : decode b_O_returned 38 = .ok (.iaload, 1) := by decide +kernel
theorem d_O_returned_39 : decode b_O_returned 39 = .ok (.iaload, 1) := by decide +kernel
theorem d_O_returned_40 : decode b_O_returned 40 = .ok (.if_icmp .le 5, 3) := by decide +kernel
theorem d_O_returned_43 : decode b_O_returned 43 = .ok (.iconst 0, 1) := by decide +kernel
theorem d_O_returned_44 : decode b_O_returned 44 = .ok (.ireturn, 1) := by decide +kernel
theorem d_O_returned_45 : decode b_O_returned 45 = .ok (.aload_n 0, 1) := by decide +kernel
theorem d_O_returned_46 : decode b_O_returned 46 = .ok (.getfield 30, 3) := by decide +kernel
theorem d_O_returned_49 : decode b_O_returned 49 = .ok (.iload_n 1, 1) := by decide +kernel
theorem d_O_returned_50 : decode b_O_returned 50 = .ok (.iconst 0, 1) := by decide +kernel
theorem d_O_returned_51 : decode b_O_returned 51 = .ok (.iastore, 1) := by decide +kernel
theorem d_O_returned_52 : decode b_O_returned 52 = .ok (.iconst 1, 1) := by decide +kernel
theorem d_O_returned_53 : decode b_O_returned 53 = .ok (.ireturn, 1) := by decide +kernel
def w_O_returned : List Cond := .code y_O_returned b_O_returned 2 (some .boolean) :: ([.methodLink "PartShelvesModel" 108 ⟨"PartShelvesModel", "isPart", "(I)Z"⟩, .instanceMethod ⟨"PartShelvesModel", "isPart", "(I)Z"⟩, .selects "PartShelvesModel" ⟨"PartShelvesModel", "isPart", "(I)Z"⟩ ⟨"PartShelvesModel", "isPart", "(I)Z"⟩, .initialized "PartShelvesModel", .code ⟨"PartShelvesModel", "isPart", "(I)Z"⟩ prog_9_method_6_code 2 (some .boolean), .fieldLink "PartShelvesModel" 81 "PartShelvesModel" "parts" "I", .fieldLink "PartShelvesModel" 30 "PartShelvesModel" "states" "[I", .fieldLink "PartShelvesModel" 88 "PartShelvesModel" "today" "I", .fieldLink "PartShelvesModel" 36 "PartShelvesModel" "days" "[I", .fieldLink "PartShelvesModel" 54 "PartShelvesModel" "warranties" "[I", .fieldLink "PartShelvesModel" 21 "PartShelvesModel" "kinds" "[I"] ++ u_ws R_O F_O 36)
set_option maxRecDepth 20000 in
theorem g_O_returned_isPart : GoodIn w_O_returned (wsV R_O 108 R_O y_O_isPart w_O_isPart) := goodIn_p _ [5] rfl (by decide +kernel)
set_option maxHeartbeats 4000000 in
set_option maxRecDepth 100000 in
theorem c_O_returned (l : Launch) (D : va_G) (kC : Nat → ClassId) (ad : Nat → Nat) (td : Nat) (rn : Nat) (pn : Nat) (an : Nat) (jn : Nat) (tn : Nat) (bm : Int32) (fw : Int64) (gp : Nat) (ga : Nat) (bp : Int32) (fc : Int64) (fj : Nat) (rA : Nat → Nat) (rC : Nat → Nat) (ft : Nat → Int32) (kd : Nat → Nat) (aG : Nat → Nat) (sR : Nat → Nat) (sT : Nat → Nat) (wh : Nat → Nat) (dY : Nat → Nat) (pd : Nat → Nat) (cN : Nat → Nat) (mN : Nat → Nat) (sv : Nat → Int32) (nd : Nat → Nat) (wr : Nat → Nat) (tl : Nat → Nat) (lt : Nat → Int32) (lT : Nat → Nat) (lD : Nat → Nat) (gv : Nat → Int32) (gn : Nat → Int64) (od : Nat → Nat) (br : Nat → Nat) (x : Int32) (sz : Nat) (hpn : pn ≤ 8) (hsold : ∀ j, sT j = 2 → dY j ≤ td) (hkd : ∀ j, kd j < 6) (hwr : ∀ j, wr j ≤ 1000) (hsT : ∀ j, sT j ≤ 3) (hdY : ∀ j, dY j ≤ 100000) (htd : td ≤ 100000) : Met l y_O_returned w_O_returned ({ frames := 1, cells := 0, slots := 0, locals := 25 } : Room) (gPre cls D (tyL kC) [.ref (ad 0), .int x] (fl [(wO kC ad td rn pn an jn tn bm fw gp ga bp fc fj rA rC ft kd aG sR sT wh dY pd cN mN sv nd wr tl lt lT lD gv gn od br)]) sz) (gQi cls D (tyL kC) (fl [(wO kC ad td rn pn an jn tn bm fw gp ga bp fc fj rA rC ft kd aG sR sT wh dY pd cN mN sv nd wr tl lt lT lD gv gn od br)]) sz (bI (inR x pn ∧ sT (nOf x) = 2 ∧ td - dY (nOf x) ≤ wr (kd (nOf x)))) (fl [(wO kC ad td rn pn an jn tn bm fw gp ga bp fc fj rA rC ft kd aG sR (if (inR x pn ∧ sT (nOf x) = 2 ∧ td - dY (nOf x) ≤ wr (kd (nOf x))) then updN sT (nOf x) 0 else sT) wh dY pd cN mN sv nd wr tl lt lT lD gv gn od br)])) 0 0 (va_A (fl [(wO kC ad td rn pn an jn tn bm fw gp ga bp fc fj rA rC ft kd aG sR sT wh dY pd cN mN sv nd wr tl lt lT lD gv gn od br)]) sz) := by
  refine Met.ofW (cc := b_O_returned) (maxL := 2) (ret := (some .boolean)) (by decide) rfl ?_
  intro p e s m args below meth c s₁ B hml hv
  obtain ⟨rfl, hsz, hP, hK, hD0⟩ := hv
  have hx := B.exec
  have hb := B.bytes
  have hr := B.returns
  have hts := atoms_spec (ws := w_O_returned) B.pre
  have hown : s.vm.findClass R_O = some m.cls := findClass_of_methodNamed B.named
  have hlocks := B.notSynchronized
  subst hsz
  obtain ⟨A, hAe⟩ : ∃ A : Nat → Prop, A = va_A (fl [(wO kC ad td rn pn an jn tn bm fw gp ga bp fc fj rA rC ft kd aG sR sT wh dY pd cN mN sv nd wr tl lt lT lD gv gn od br)]) s.heap.size := ⟨_, rfl⟩
  have hD : va_D A (fl [(wO kC ad td rn pn an jn tn bm fw gp ga bp fc fj rA rC ft kd aG sR sT wh dY pd cN mN sv nd wr tl lt lT lD gv gn od br)]) := by rw [hAe]; exact hD0.self
  have hA : ∀ q : Nat, s.heap.size ≤ q → A q := fun q h => by rw [hAe]; exact Or.inr h
  have hS : va_S A s.heap s.heap [] := va_S.rf
  have hl := lv_entry ([.ref (ad 0), .int x]) (n := 2) (Nat.le_of_ble_eq_true rfl)
  rw [lg_entry_eq]
  generalize (lg_sl ([.ref (ad 0), .int x]) ++ List.replicate (2 - (lg_sl ([.ref (ad 0), .int x])).length) Slot.unset).toArray = ls at hl ⊢
  have hl : lv_has ls 2 [(0, .ref (ad 0)), (1, .int x)] := hl
  refine lv_aload_n hx hb d_O_returned_0 rfl (lv_at hl 0 rfl) ?_
  refine lv_iload_n hx hb d_O_returned_1 rfl (lv_at hl 1 rfl) ?_
  refine r_calli (W.runV (As := [.int x]) (rest := []) ⟨hx, hb, hml, hown, hts⟩ (c_O_isPart l D kC ad td rn pn an jn tn bm fw gp ga bp fc fj rA rC ft kd aG sR sT wh dY pd cN mN sv nd wr tl lt lT lD gv gn od br x (hpn)) (cwV 1 hts g_O_returned_isPart rfl rfl rfl (by decide +kernel) ⟨Nat.le_of_ble_eq_true rfl, Nat.le_of_ble_eq_true rfl⟩) (r_preV (f_recv (ci := 7) (q0 := 0) hK hP 0 rfl rfl rfl) hK hP) rfl rfl hl.1 rfl (lv_room (Nat.le_of_ble_eq_true rfl)) d_O_returned_2 ⟨Nat.le_of_ble_eq_true rfl, Nat.le_of_ble_eq_true rfl⟩) ?_
  refine lv_if_eq (tgt := 43) hx hb d_O_returned_5 (by decide) (fun h1 => ?_) (fun h1 => ?_)
  · have hC : ¬ (inR x pn ∧ sT (nOf x) = 2 ∧ td - dY (nOf x) ≤ wr (kd (nOf x))) := fun q => by first | (have q3 := q.2.2; rw [nOf_nI (by omega)] at q3; omega) | (have q2 := q.2.1; rw [nOf_nI (by omega)] at q2; exact h2 q2) | exact bI_0.mp h1 q.1
    refine lv_iconst (v := nI 0) hx hb d_O_returned_43 (by decide) ?_
    have ew1 : sT = (if (inR x pn ∧ sT (nOf x) = 2 ∧ td - dY (nOf x) ≤ wr (kd (nOf x))) then updN sT (nOf x) 0 else sT) := (if_neg hC).symm
    have hP : va_P D cls (fl [(wO kC ad td rn pn an jn tn bm fw gp ga bp fc fj rA rC ft kd aG sR (if (inR x pn ∧ sT (nOf x) = 2 ∧ td - dY (nOf x) ≤ wr (kd (nOf x))) then updN sT (nOf x) 0 else sT) wh dY pd cN mN sv nd wr tl lt lT lD gv gn od br)]) s.heap := by rw [← ew1]; exact hP
    have hD : va_D A (fl [(wO kC ad td rn pn an jn tn bm fw gp ga bp fc fj rA rC ft kd aG sR (if (inR x pn ∧ sT (nOf x) = 2 ∧ td - dY (nOf x) ≤ wr (kd (nOf x))) then updN sT (nOf x) 0 else sT) wh dY pd cN mN sv nd wr tl lt lT lD gv gn od br)]) := by rw [← ew1]; exact hD
    exact W.zret (v := nI 0) hx hb hr (nar_b (by first | exact Or.inl rfl | exact Or.inr rfl | exact bI_01)) (fun t ht hW => by subst hAe; exact ⟨⟨(nI 0), (), rfl, (bI_f hC).symm, by rw [ht]; exact hP, va_K.moved hW.alike hK, hD⟩, hS.F ht⟩) (by subst hAe; exact hS.2.2) d_O_returned_44
  · have h1 := bI_n0.mp h1
    obtain ⟨j, hj, rfl⟩ := inR_n (by omega) h1
    refine lv_aload_n hx hb d_O_returned_8 rfl (lv_at hl 0 rfl) ?_
    refine fv_get (ci := 7) (v := .ref (ad 7)) (C := R_O) (T := F_O) (N := 36) hx hb hts (by decide +kernel) hown hK hP 0 0 rfl rfl rfl 9 (by decide) (hts (.fieldLink R_O 30 "PartShelvesModel" "states" "[I") (by decide +kernel)) (fun _ h9 => h9) rfl d_O_returned_9 ?_
    refine lv_iload_n hx hb d_O_returned_12 rfl (lv_at hl 1 rfl) ?_
    refine fa_ialdN hx hb hK hP 0 7 0 rfl rfl rfl (by omega) (by decide) d_O_returned_13 ?_
    refine lv_iconst (v := nI 2) hx hb d_O_returned_14 (by decide) ?_
    refine nv_icmp_ne (tgt := 43) hx hb d_O_returned_15 (by decide) (by have := hsT j; omega) (by omega) (fun h2 => ?_) (fun h2 => ?_)
    · have hC : ¬ (inR (nI j) pn ∧ sT (nOf (nI j)) = 2 ∧ td - dY (nOf (nI j)) ≤ wr (kd (nOf (nI j)))) := fun q => by first | (have q3 := q.2.2; rw [nOf_nI (by omega)] at q3; omega) | (have q2 := q.2.1; rw [nOf_nI (by omega)] at q2; exact h2 q2) | exact bI_0.mp h1 q.1
      refine lv_iconst (v := nI 0) hx hb d_O_returned_43 (by decide) ?_
      have ew2 : sT = (if (inR (nI j) pn ∧ sT (nOf (nI j)) = 2 ∧ td - dY (nOf (nI j)) ≤ wr (kd (nOf (nI j)))) then updN sT (nOf (nI j)) 0 else sT) := (if_neg hC).symm
      have hP : va_P D cls (fl [(wO kC ad td rn pn an jn tn bm fw gp ga bp fc fj rA rC ft kd aG sR (if (inR (nI j) pn ∧ sT (nOf (nI j)) = 2 ∧ td - dY (nOf (nI j)) ≤ wr (kd (nOf (nI j)))) then updN sT (nOf (nI j)) 0 else sT) wh dY pd cN mN sv nd wr tl lt lT lD gv gn od br)]) s.heap := by rw [← ew2]; exact hP
      have hD : va_D A (fl [(wO kC ad td rn pn an jn tn bm fw gp ga bp fc fj rA rC ft kd aG sR (if (inR (nI j) pn ∧ sT (nOf (nI j)) = 2 ∧ td - dY (nOf (nI j)) ≤ wr (kd (nOf (nI j)))) then updN sT (nOf (nI j)) 0 else sT) wh dY pd cN mN sv nd wr tl lt lT lD gv gn od br)]) := by rw [← ew2]; exact hD
      exact W.zret (v := nI 0) hx hb hr (nar_b (by first | exact Or.inl rfl | exact Or.inr rfl | exact bI_01)) (fun t ht hW => by subst hAe; exact ⟨⟨(nI 0), (), rfl, (bI_f hC).symm, by rw [ht]; exact hP, va_K.moved hW.alike hK, hD⟩, hS.F ht⟩) (by subst hAe; exact hS.2.2) d_O_returned_44
    · refine lv_aload_n hx hb d_O_returned_18 rfl (lv_at hl 0 rfl) ?_
      refine fv_get (ci := 7) (v := .int (nI td)) (C := R_O) (T := F_O) (N := 36) hx hb hts (by decide +kernel) hown hK hP 0 0 rfl rfl rfl 0 (by decide) (hts (.fieldLink R_O 88 "PartShelvesModel" "today" "I") (by decide +kernel)) (fun _ h9 => h9) rfl d_O_returned_19 ?_
      refine lv_aload_n hx hb d_O_returned_22 rfl (lv_at hl 0 rfl) ?_
      refine fv_get (ci := 7) (v := .ref (ad 9)) (C := R_O) (T := F_O) (N := 36) hx hb hts (by decide +kernel) hown hK hP 0 0 rfl rfl rfl 11 (by decide) (hts (.fieldLink R_O 36 "PartShelvesModel" "days" "[I") (by decide +kernel)) (fun _ h9 => h9) rfl d_O_returned_23 ?_
      refine lv_iload_n hx hb d_O_returned_26 rfl (lv_at hl 1 rfl) ?_
      refine fa_ialdN hx hb hK hP 0 9 0 rfl rfl rfl (by omega) (by decide) d_O_returned_27 ?_
      refine nv_isub hx hb d_O_returned_28 (hsold j h2) ?_
      refine lv_aload_n hx hb d_O_returned_29 rfl (lv_at hl 0 rfl) ?_
      refine fv_get (ci := 7) (v := .ref (ad 15)) (C := R_O) (T := F_O) (N := 36) hx hb hts (by decide +kernel) hown hK hP 0 0 rfl rfl rfl 19 (by decide) (hts (.fieldLink R_O 54 "PartShelvesModel" "warranties" "[I") (by decide +kernel)) (fun _ h9 => h9) rfl d_O_returned_30 ?_
      refine lv_aload_n hx hb d_O_returned_33 rfl (lv_at hl 0 rfl) ?_
      refine fv_get (ci := 7) (v := .ref (ad 4)) (C := R_O) (T := F_O) (N := 36) hx hb hts (by decide +kernel) hown hK hP 0 0 rfl rfl rfl 6 (by decide) (hts (.fieldLink R_O 21 "PartShelvesModel" "kinds" "[I") (by decide +kernel)) (fun _ h9 => h9) rfl d_O_returned_34 ?_
      refine lv_iload_n hx hb d_O_returned_37 rfl (lv_at hl 1 rfl) ?_
      refine fa_ialdN hx hb hK hP 0 4 0 rfl rfl rfl (by omega) (by decide) d_O_returned_38 ?_
      refine fa_ialdN hx hb hK hP 0 15 0 rfl rfl rfl (hkd j) (by decide) d_O_returned_39 ?_
      refine nv_icmp_le (tgt := 45) hx hb d_O_returned_40 (by decide) (by omega) (by have := hwr (kd j); omega) (fun h3 => ?_) (fun h3 => ?_)
      · have hC : (inR (nI j) pn ∧ sT (nOf (nI j)) = 2 ∧ td - dY (nOf (nI j)) ≤ wr (kd (nOf (nI j)))) := ⟨h1, by rw [nOf_nI (by omega)]; exact h2, by rw [nOf_nI (by omega)]; exact h3⟩
        refine lv_aload_n hx hb d_O_returned_45 rfl (lv_at hl 0 rfl) ?_
        refine fv_get (ci := 7) (v := .ref (ad 7)) (C := R_O) (T := F_O) (N := 36) hx hb hts (by decide +kernel) hown hK hP 0 0 rfl rfl rfl 9 (by decide) (hts (.fieldLink R_O 30 "PartShelvesModel" "states" "[I") (by decide +kernel)) (fun _ h9 => h9) rfl d_O_returned_46 ?_
        refine lv_iload_n hx hb d_O_returned_49 rfl (lv_at hl 1 rfl) ?_
        refine lv_iconst (v := nI 0) hx hb d_O_returned_50 (by decide) ?_
        refine fa_iastN hx hb hK hP hD hS 0 7 0 rfl rfl rfl (by omega) (by decide) d_O_returned_51 (fun H locs hP hD hS => ?_)
        have hP : va_P D cls (fl [(wO kC ad td rn pn an jn tn bm fw gp ga bp fc fj rA rC ft kd aG sR (updN sT j 0) wh dY pd cN mN sv nd wr tl lt lT lD gv gn od br)]) H := hP
        have hD : va_D A (fl [(wO kC ad td rn pn an jn tn bm fw gp ga bp fc fj rA rC ft kd aG sR (updN sT j 0) wh dY pd cN mN sv nd wr tl lt lT lD gv gn od br)]) := hD
        refine lv_iconst (v := nI 1) hx hb d_O_returned_52 (by decide) ?_
        have ew3 : (updN sT j 0) = (if (inR (nI j) pn ∧ sT (nOf (nI j)) = 2 ∧ td - dY (nOf (nI j)) ≤ wr (kd (nOf (nI j)))) then updN sT (nOf (nI j)) 0 else sT) := by rw [if_pos hC, nOf_nI (by omega)]
        have hP : va_P D cls (fl [(wO kC ad td rn pn an jn tn bm fw gp ga bp fc fj rA rC ft kd aG sR (if (inR (nI j) pn ∧ sT (nOf (nI j)) = 2 ∧ td - dY (nOf (nI j)) ≤ wr (kd (nOf (nI j)))) then updN sT (nOf (nI j)) 0 else sT) wh dY pd cN mN sv nd wr tl lt lT lD gv gn od br)]) H := by rw [← ew3]; exact hP
        have hD : va_D A (fl [(wO kC ad td rn pn an jn tn bm fw gp ga bp fc fj rA rC ft kd aG sR (if (inR (nI j) pn ∧ sT (nOf (nI j)) = 2 ∧ td - dY (nOf (nI j)) ≤ wr (kd (nOf (nI j)))) then updN sT (nOf (nI j)) 0 else sT) wh dY pd cN mN sv nd wr tl lt lT lD gv gn od br)]) := by rw [← ew3]; exact hD
        exact W.zret (v := nI 1) hx hb hr (nar_b (by first | exact Or.inl rfl | exact Or.inr rfl | exact bI_01)) (fun t ht hW => by subst hAe; exact ⟨⟨(nI 1), (), rfl, (bI_t hC).symm, by rw [ht]; exact hP, va_K.moved hW.alike hK, hD⟩, hS.F ht⟩) (by subst hAe; exact hS.2.2) d_O_returned_53
      · have hC : ¬ (inR (nI j) pn ∧ sT (nOf (nI j)) = 2 ∧ td - dY (nOf (nI j)) ≤ wr (kd (nOf (nI j)))) := fun q => by first | (have q3 := q.2.2; rw [nOf_nI (by omega)] at q3; omega) | (have q2 := q.2.1; rw [nOf_nI (by omega)] at q2; exact h2 q2) | exact bI_0.mp h1 q.1
        refine lv_iconst (v := nI 0) hx hb d_O_returned_43 (by decide) ?_
        have ew4 : sT = (if (inR (nI j) pn ∧ sT (nOf (nI j)) = 2 ∧ td - dY (nOf (nI j)) ≤ wr (kd (nOf (nI j)))) then updN sT (nOf (nI j)) 0 else sT) := (if_neg hC).symm
        have hP : va_P D cls (fl [(wO kC ad td rn pn an jn tn bm fw gp ga bp fc fj rA rC ft kd aG sR (if (inR (nI j) pn ∧ sT (nOf (nI j)) = 2 ∧ td - dY (nOf (nI j)) ≤ wr (kd (nOf (nI j)))) then updN sT (nOf (nI j)) 0 else sT) wh dY pd cN mN sv nd wr tl lt lT lD gv gn od br)]) s.heap := by rw [← ew4]; exact hP
        have hD : va_D A (fl [(wO kC ad td rn pn an jn tn bm fw gp ga bp fc fj rA rC ft kd aG sR (if (inR (nI j) pn ∧ sT (nOf (nI j)) = 2 ∧ td - dY (nOf (nI j)) ≤ wr (kd (nOf (nI j)))) then updN sT (nOf (nI j)) 0 else sT) wh dY pd cN mN sv nd wr tl lt lT lD gv gn od br)]) := by rw [← ew4]; exact hD
        exact W.zret (v := nI 0) hx hb hr (nar_b (by first | exact Or.inl rfl | exact Or.inr rfl | exact bI_01)) (fun t ht hW => by subst hAe; exact ⟨⟨(nI 0), (), rfl, (bI_f hC).symm, by rw [ht]; exact hP, va_K.moved hW.alike hK, hD⟩, hS.F ht⟩) (by subst hAe; exact hS.2.2) d_O_returned_44

abbrev b_O_recalled : ByteArray := prog_9_method_38_code
def y_O_recalled : MethodName := ⟨"PartShelvesModel", "recalled", "(I)I"⟩
theorem d_O_recalled_0 : decode b_O_recalled 0 = .ok (.iload_n 1, 1) := by decide +kernel
theorem d_O_recalled_1 : decode b_O_recalled 1 = .ok (.ifCond .lt 20, 3) := by decide +kernel
theorem d_O_recalled_4 : decode b_O_recalled 4 = .ok (.iload_n 1, 1) := by decide +kernel
theorem d_O_recalled_5 : decode b_O_recalled 5 = .ok (.aload_n 0, 1) := by decide +kernel
theorem d_O_recalled_6 : decode b_O_recalled 6 = .ok (.getfield 183, 3) := by decide +kernel
theorem d_O_recalled_9 : decode b_O_recalled 9 = .ok (.if_icmp .ge 12, 3) := by decide +kernel
theorem d_O_recalled_12 : decode b_O_recalled 12 = .ok (.aload_n 0, 1) := by decide +kernel
theorem d_O_recalled_13 : decode b_O_recalled 13 = .ok (.getfield 57, 3) := by decide +kernel
theorem d_O_recalled_16 : decode b_O_recalled 16 = .ok (.iload_n 1, 1) := by decide +kernel
theorem d_O_recalled_17 : decode b_O_recalled 17 = .ok (.iaload, 1) := by decide +kernel
theorem d_O_recalled_18 : decode b_O_recalled 18 = .ok (.goto 4, 3) := by decide +kernel
theorem d_O_recalled_21 : decode b_O_recalled 21 = .ok (.iconst (-1), 1) := by decide +kernel
theorem d_O_recalled_22 : decode b_O_recalled 22 = .ok (.ireturn, 1) := by decide +kernel
def w_O_recalled : List Cond := .code y_O_recalled b_O_recalled 2 (some .int) :: ([.fieldLink "PartShelvesModel" 183 "PartShelvesModel" "tellCount" "I", .fieldLink "PartShelvesModel" 57 "PartShelvesModel" "tells" "[I"] ++ u_ws R_O F_O 36)
set_option maxHeartbeats 4000000 in
set_option maxRecDepth 100000 in
theorem c_O_recalled (l : Launch) (D : va_G) (kC : Nat → ClassId) (ad : Nat → Nat) (td : Nat) (rn : Nat) (pn : Nat) (an : Nat) (jn : Nat) (tn : Nat) (bm : Int32) (fw : Int64) (gp : Nat) (ga : Nat) (bp : Int32) (fc : Int64) (fj : Nat) (rA : Nat → Nat) (rC : Nat → Nat) (ft : Nat → Int32) (kd : Nat → Nat) (aG : Nat → Nat) (sR : Nat → Nat) (sT : Nat → Nat) (wh : Nat → Nat) (dY : Nat → Nat) (pd : Nat → Nat) (cN : Nat → Nat) (mN : Nat → Nat) (sv : Nat → Int32) (nd : Nat → Nat) (wr : Nat → Nat) (tl : Nat → Nat) (lt : Nat → Int32) (lT : Nat → Nat) (lD : Nat → Nat) (gv : Nat → Int32) (gn : Nat → Int64) (od : Nat → Nat) (br : Nat → Nat) (x : Int32) (htn : tn ≤ 8) : Met l y_O_recalled w_O_recalled ({ frames := 0, cells := 0, slots := 0, locals := 0 } : Room) (gPr cls D (tyL kC) [.ref (ad 0), .int x] (fl [(wO kC ad td rn pn an jn tn bm fw gp ga bp fc fj rA rC ft kd aG sR sT wh dY pd cN mN sv nd wr tl lt lT lD gv gn od br)])) (vp_Si (fun r => r = atR (fun j => nI (tl j)) (-1) x tn)) 0 0 (fun _ => False) := by
  refine Met.ofW (cc := b_O_recalled) (maxL := 2) (ret := (some .int)) (by decide) rfl ?_
  intro p e s m args below meth c s₁ B hml hv
  obtain ⟨rfl, hP, hK⟩ := hv
  have hx := B.exec
  have hb := B.bytes
  have hr := B.returns
  have hts := atoms_spec (ws := w_O_recalled) B.pre
  have hown : s.vm.findClass R_O = some m.cls := findClass_of_methodNamed B.named
  have hlocks := B.notSynchronized
  have hl := lv_entry ([.ref (ad 0), .int x]) (n := 2) (Nat.le_of_ble_eq_true rfl)
  rw [lg_entry_eq]
  generalize (lg_sl ([.ref (ad 0), .int x]) ++ List.replicate (2 - (lg_sl ([.ref (ad 0), .int x])).length) Slot.unset).toArray = ls at hl ⊢
  have hl : lv_has ls 2 [(0, .ref (ad 0)), (1, .int x)] := hl
  refine lv_iload_n hx hb d_O_recalled_0 rfl (lv_at hl 1 rfl) ?_
  refine lv_if_lt (tgt := 21) hx hb d_O_recalled_1 (by decide) (fun h0 => ?_) (fun h0 => ?_)
  · refine lv_iconst (v := (-1)) hx hb d_O_recalled_21 (by decide) ?_
    exact W.iret (v := (-1)) hx hb hr (fun t ht hW => ⟨_, rfl, (atR_no (by first | exact inR_ge (by omega) h1 | exact inR_lt h0)).symm, ht⟩) t_nil d_O_recalled_22
  · refine lv_iload_n hx hb d_O_recalled_4 rfl (lv_at hl 1 rfl) ?_
    refine lv_aload_n hx hb d_O_recalled_5 rfl (lv_at hl 0 rfl) ?_
    refine fv_get (ci := 7) (v := .int (nI tn)) (C := R_O) (T := F_O) (N := 36) hx hb hts (by decide +kernel) hown hK hP 0 0 rfl rfl rfl 20 (by decide) (hts (.fieldLink R_O 183 "PartShelvesModel" "tellCount" "I") (by decide +kernel)) (fun _ h9 => h9) rfl d_O_recalled_6 ?_
    refine lv_icmp_ge (tgt := 21) hx hb d_O_recalled_9 (by decide) (fun h1 => ?_) (fun h1 => ?_)
    · refine lv_iconst (v := (-1)) hx hb d_O_recalled_21 (by decide) ?_
      exact W.iret (v := (-1)) hx hb hr (fun t ht hW => ⟨_, rfl, (atR_no (by first | exact inR_ge (by omega) h1 | exact inR_lt h0)).symm, ht⟩) t_nil d_O_recalled_22
    · obtain ⟨j, hj, rfl⟩ := in_of (by omega) h0 h1
      refine lv_aload_n hx hb d_O_recalled_12 rfl (lv_at hl 0 rfl) ?_
      refine fv_get (ci := 7) (v := .ref (ad 16)) (C := R_O) (T := F_O) (N := 36) hx hb hts (by decide +kernel) hown hK hP 0 0 rfl rfl rfl 21 (by decide) (hts (.fieldLink R_O 57 "PartShelvesModel" "tells" "[I") (by decide +kernel)) (fun _ h9 => h9) rfl d_O_recalled_13 ?_
      refine lv_iload_n hx hb d_O_recalled_16 rfl (lv_at hl 1 rfl) ?_
      refine fa_ialdN hx hb hK hP 0 16 0 rfl rfl rfl (by omega) (by decide) d_O_recalled_17 ?_
      refine lv_goto (tgt := 22) hx hb d_O_recalled_18 (by decide) ?_
      exact W.iret (v := nI (tl j)) hx hb hr (fun t ht hW => ⟨_, rfl, (atR_nI (f := fun j => nI (tl j)) hj (by omega)).symm, ht⟩) t_nil d_O_recalled_22

