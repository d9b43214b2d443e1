abbrev b_O_lend : ByteArray := prog_9_method_39_code
def y_O_lend : MethodName := ⟨"PartShelvesModel", "lend", "(III)Z"⟩
theorem d_O_lend_0 : decode b_O_lend 0 = .ok (.iload_n 1, 1) := by decide +kernel
theorem d_O_lend_1 : decode b_O_lend 1 = .ok (.ifCond .lt 40, 3) := by decide +kernel
theorem d_O_lend_4 : decode b_O_lend 4 = .ok (.iload_n 1, 1) := by decide +kernel
theorem d_O_lend_5 : decode b_O_lend 5 = .ok (.iconst 4, 1) := by decide +kernel
theorem d_O_lend_6 : decode b_O_lend 6 = .ok (.if_icmp .ge 35, 3) := by decide +kernel
theorem d_O_lend_9 : decode b_O_lend 9 = .ok (.iload_n 2, 1) := by decide +kernel
theorem d_O_lend_10 : decode b_O_lend 10 = .ok (.invokestatic 156, 3) := by decide +kernel
theorem d_O_lend_13 : decode b_O_lend 13 = .ok (.ifCond .eq 28, 3) := by decide +kernel
theorem d_O_lend_16 : decode b_O_lend 16 = .ok (.aload_n 0, 1) := by decide +kernel
theorem d_O_lend_17 : decode b_O_lend 17 = .ok (.getfield 60, 3) := by decide +kernel
theorem d_O_lend_20 : decode b_O_lend 20 = .ok (.iload_n 1, 1) := by decide +kernel
theorem d_O_lend_21 : decode b_O_lend 21 = .ok (.baload, 1) := by decide +kernel
theorem d_O_lend_22 : decode b_O_lend 22 = .ok (.ifCond .ne 19, 3) := by decide +kernel
theorem d_O_lend_25 : decode b_O_lend 25 = .ok (.iload_n 3, 1) := by decide +kernel
theorem d_O_lend_26 : decode b_O_lend 26 = .ok (.i2l, 1) := by decide +kernel
theorem d_O_lend_27 : decode b_O_lend 27 = .ok (.aload_n 0, 1) := by decide +kernel
theorem d_O_lend_28 : decode b_O_lend 28 = .ok (.getfield 88, 3) := by decide +kernel
theorem d_O_lend_31 : decode b_O_lend 31 = .ok (.i2l, 1) := by decide +kernel
theorem d_O_lend_32 : decode b_O_lend 32 = .ok (.ldc2_w 91, 3) := by decide +kernel
theorem d_O_lend_35 : decode b_O_lend 35 = .ok (.invokestatic 93, 3) := by decide +kernel
theorem d_O_lend_38 : decode b_O_lend 38 = .ok (.ifCond .ne 5, 3) := by decide +kernel
theorem d_O_lend_41 : decode b_O_lend 41 = .ok (.iconst 0, 1) := by decide +kernel
theorem d_O_lend_42 : decode b_O_lend 42 = .ok (.ireturn, 1) := by decide +kernel
theorem d_O_lend_43 : decode b_O_lend 43 = .ok (.aload_n 0, 1) := by decide +kernel
theorem d_O_lend_44 : decode b_O_lend 44 = .ok (.getfield 60, 3) := by decide +kernel
theorem d_O_lend_47 : decode b_O_lend 47 = .ok (.iload_n 1, 1) := by decide +kernel
theorem d_O_lend_48 : decode b_O_lend 48 = .ok (.iconst 1, 1) := by decide +kernel
theorem d_O_lend_49 : decode b_O_lend 49 = .ok (.bastore, 1) := by decide +kernel
theorem d_O_lend_50 : decode b_O_lend 50 = .ok (.aload_n 0, 1) := by decide +kernel
theorem d_O_lend_51 : decode b_O_lend 51 = .ok (.getfield 63, 3) := by decide +kernel
theorem d_O_lend_54 : decode b_O_lend 54 = .ok (.iload_n 1, 1) := by decide +kernel
theorem d_O_lend_55 : decode b_O_lend 55 = .ok (.iload_n 2, 1) := by decide +kernel
theorem d_O_lend_56 : decode b_O_lend 56 = .ok (.iastore, 1) := by decide +kernel
theorem d_O_lend_57 : decode b_O_lend 57 = .ok (.aload_n 0, 1) := by decide +kernel
theorem d_O_lend_58 : decode b_O_lend 58 = .ok (.getfield 66, 3) := by decide +kernel
theorem d_O_lend_61 : decode b_O_lend 61 = .ok (.iload_n 1, 1) := by decide +kernel
theorem d_O_lend_62 : decode b_O_lend 62 = .ok (.iload_n 3, 1) := by decide +kernel
theorem d_O_lend_63 : decode b_O_lend 63 = .ok (.iastore, 1) := by decide +kernel
theorem d_O_lend_64 : decode b_O_lend 64 = .ok (.iconst 1, 1) := by decide +kernel
theorem d_O_lend_65 : decode b_O_lend 65 = .ok (.ireturn, 1) := by decide +kernel
def w_O_lend : List Cond := .code y_O_lend b_O_lend 4 (some .boolean) :: ([.methodLink "PartShelvesModel" 156 ⟨"PartShelvesModel", "isPerson", "(I)Z"⟩, .static ⟨"PartShelvesModel", "isPerson", "(I)Z"⟩, .initialized "PartShelvesModel", .code ⟨"PartShelvesModel", "isPerson", "(I)Z"⟩ prog_9_method_5_code 1 (some .boolean), .fieldLink "PartShelvesModel" 60 "PartShelvesModel" "lent" "[Z", .fieldLink "PartShelvesModel" 88 "PartShelvesModel" "today" "I", .constantLong "PartShelvesModel" 91 100000, .methodLink "PartShelvesModel" 93 ⟨"PartShelvesModel", "isIn", "(JJJ)Z"⟩, .static ⟨"PartShelvesModel", "isIn", "(JJJ)Z"⟩, .code ⟨"PartShelvesModel", "isIn", "(JJJ)Z"⟩ prog_9_method_3_code 6 (some .boolean), .fieldLink "PartShelvesModel" 63 "PartShelvesModel" "lentTo" "[I", .fieldLink "PartShelvesModel" 66 "PartShelvesModel" "lentDay" "[I"] ++ u_ws R_O F_O 36)
set_option maxRecDepth 20000 in
theorem g_O_lend_isPerson : GoodIn w_O_lend (wsS R_O 156 y_O_isPerson w_O_isPerson) := goodIn_p _ [4] rfl (by decide +kernel)
set_option maxRecDepth 20000 in
theorem g_O_lend_isIn : GoodIn w_O_lend (wsS R_O 93 y_O_isIn w_O_isIn) := goodIn_p _ [10] rfl (by decide +kernel)
set_option maxHeartbeats 4000000 in
set_option maxRecDepth 100000 in
theorem c_O_lend (l : Launch) (D : va_G) (kC : Nat → ClassId) (ad : Nat → Nat) (td : Nat) (rn : Nat) (pn : Nat) (an : Nat) (jn : Nat) (tn : Nat) (bm : Int32) (fw : Int64) (gp : Nat) (ga : Nat) (bp : Int32) (fc : Int64) (fj : Nat) (rA : Nat → Nat) (rC : Nat → Nat) (ft : Nat → Int32) (kd : Nat → Nat) (aG : Nat → Nat) (sR : Nat → Nat) (sT : Nat → Nat) (wh : Nat → Nat) (dY : Nat → Nat) (pd : Nat → Nat) (cN : Nat → Nat) (mN : Nat → Nat) (sv : Nat → Int32) (nd : Nat → Nat) (wr : Nat → Nat) (tl : Nat → Nat) (lt : Nat → Int32) (lT : Nat → Nat) (lD : Nat → Nat) (gv : Nat → Int32) (gn : Nat → Int64) (od : Nat → Nat) (br : Nat → Nat) (x : Int32) (y : Int32) (z : Int32) (sz : Nat) (htd : td ≤ 100000) : Met l y_O_lend w_O_lend ({ frames := 1, cells := 0, slots := 0, locals := 25 } : Room) (gPre cls D (tyL kC) [.ref (ad 0), .int x, .int y, .int z] (fl [(wO kC ad td rn pn an jn tn bm fw gp ga bp fc fj rA rC ft kd aG sR sT wh dY pd cN mN sv nd wr tl lt lT lD gv gn od br)]) sz) (gQi cls D (tyL kC) (fl [(wO kC ad td rn pn an jn tn bm fw gp ga bp fc fj rA rC ft kd aG sR sT wh dY pd cN mN sv nd wr tl lt lT lD gv gn od br)]) sz (bI (inR x 4 ∧ inR y 10 ∧ lt (nOf x) = 0 ∧ inI td 100000 z)) (fl [(wO kC ad td rn pn an jn tn bm fw gp ga bp fc fj rA rC ft kd aG sR sT wh dY pd cN mN sv nd wr tl (if (inR x 4 ∧ inR y 10 ∧ lt (nOf x) = 0 ∧ inI td 100000 z) then upd lt (nOf x) (nI 1) else lt) (if (inR x 4 ∧ inR y 10 ∧ lt (nOf x) = 0 ∧ inI td 100000 z) then updN lT (nOf x) (nOf y) else lT) (if (inR x 4 ∧ inR y 10 ∧ lt (nOf x) = 0 ∧ inI td 100000 z) then updN lD (nOf x) (nOf z) else lD) gv gn od br)])) 0 0 (va_A (fl [(wO kC ad td rn pn an jn tn bm fw gp ga bp fc fj rA rC ft kd aG sR sT wh dY pd cN mN sv nd wr tl lt lT lD gv gn od br)]) sz) := by
  refine Met.ofW (cc := b_O_lend) (maxL := 4) (ret := (some .boolean)) (by decide) rfl ?_
  intro p e s m args below meth c s₁ B hml hv
  obtain ⟨rfl, hsz, hP, hK, hD0⟩ := hv
  have hx := B.exec
  have hb := B.bytes
  have hr := B.returns
  have hts := atoms_spec (ws := w_O_lend) B.pre
  have hown : s.vm.findClass R_O = some m.cls := findClass_of_methodNamed B.named
  have hlocks := B.notSynchronized
  subst hsz
  obtain ⟨A, hAe⟩ : ∃ A : Nat → Prop, A = va_A (fl [(wO kC ad td rn pn an jn tn bm fw gp ga bp fc fj rA rC ft kd aG sR sT wh dY pd cN mN sv nd wr tl lt lT lD gv gn od br)]) s.heap.size := ⟨_, rfl⟩
  have hD : va_D A (fl [(wO kC ad td rn pn an jn tn bm fw gp ga bp fc fj rA rC ft kd aG sR sT wh dY pd cN mN sv nd wr tl lt lT lD gv gn od br)]) := by rw [hAe]; exact hD0.self
  have hA : ∀ q : Nat, s.heap.size ≤ q → A q := fun q h => by rw [hAe]; exact Or.inr h
  have hS : va_S A s.heap s.heap [] := va_S.rf
  have hl := lv_entry ([.ref (ad 0), .int x, .int y, .int z]) (n := 4) (Nat.le_of_ble_eq_true rfl)
  rw [lg_entry_eq]
  generalize (lg_sl ([.ref (ad 0), .int x, .int y, .int z]) ++ List.replicate (4 - (lg_sl ([.ref (ad 0), .int x, .int y, .int z])).length) Slot.unset).toArray = ls at hl ⊢
  have hl : lv_has ls 4 [(0, .ref (ad 0)), (1, .int x), (2, .int y), (3, .int z)] := hl
  refine lv_iload_n hx hb d_O_lend_0 rfl (lv_at hl 1 rfl) ?_
  refine lv_if_lt (tgt := 41) hx hb d_O_lend_1 (by decide) (fun h0 => ?_) (fun h0 => ?_)
  · have hC : ¬ (inR x 4 ∧ inR y 10 ∧ lt (nOf x) = 0 ∧ inI td 100000 z) := fun q => by first | exact bI_0.mp h4 (inL_i.mpr q.2.2.2) | (have q3 := q.2.2.1; rw [nOf_nI (by omega)] at q3; exact h3 q3) | exact bI_0.mp h2 q.2.1 | exact inR_ge (by decide) h1 q.1 | exact inR_lt h0 q.1
    refine lv_iconst (v := nI 0) hx hb d_O_lend_41 (by decide) ?_
    have ew1 : lt = (if (inR x 4 ∧ inR y 10 ∧ lt (nOf x) = 0 ∧ inI td 100000 z) then upd lt (nOf x) (nI 1) else lt) := (if_neg hC).symm
    have hP : va_P D cls (fl [(wO kC ad td rn pn an jn tn bm fw gp ga bp fc fj rA rC ft kd aG sR sT wh dY pd cN mN sv nd wr tl (if (inR x 4 ∧ inR y 10 ∧ lt (nOf x) = 0 ∧ inI td 100000 z) then upd lt (nOf x) (nI 1) else lt) lT lD gv gn od br)]) s.heap := by rw [← ew1]; exact hP
    have hD : va_D A (fl [(wO kC ad td rn pn an jn tn bm fw gp ga bp fc fj rA rC ft kd aG sR sT wh dY pd cN mN sv nd wr tl (if (inR x 4 ∧ inR y 10 ∧ lt (nOf x) = 0 ∧ inI td 100000 z) then upd lt (nOf x) (nI 1) else lt) lT lD gv gn od br)]) := by rw [← ew1]; exact hD
    have ew2 : lT = (if (inR x 4 ∧ inR y 10 ∧ lt (nOf x) = 0 ∧ inI td 100000 z) then updN lT (nOf x) (nOf y) else lT) := (if_neg hC).symm
    have hP : va_P D cls (fl [(wO kC ad td rn pn an jn tn bm fw gp ga bp fc fj rA rC ft kd aG sR sT wh dY pd cN mN sv nd wr tl (if (inR x 4 ∧ inR y 10 ∧ lt (nOf x) = 0 ∧ inI td 100000 z) then upd lt (nOf x) (nI 1) else lt) (if (inR x 4 ∧ inR y 10 ∧ lt (nOf x) = 0 ∧ inI td 100000 z) then updN lT (nOf x) (nOf y) else lT) lD gv gn od br)]) s.heap := by rw [← ew2]; exact hP
    have hD : va_D A (fl [(wO kC ad td rn pn an jn tn bm fw gp ga bp fc fj rA rC ft kd aG sR sT wh dY pd cN mN sv nd wr tl (if (inR x 4 ∧ inR y 10 ∧ lt (nOf x) = 0 ∧ inI td 100000 z) then upd lt (nOf x) (nI 1) else lt) (if (inR x 4 ∧ inR y 10 ∧ lt (nOf x) = 0 ∧ inI td 100000 z) then updN lT (nOf x) (nOf y) else lT) lD gv gn od br)]) := by rw [← ew2]; exact hD
    have ew3 : lD = (if (inR x 4 ∧ inR y 10 ∧ lt (nOf x) = 0 ∧ inI td 100000 z) then updN lD (nOf x) (nOf z) else lD) := (if_neg hC).symm
    have hP : va_P D cls (fl [(wO kC ad td rn pn an jn tn bm fw gp ga bp fc fj rA rC ft kd aG sR sT wh dY pd cN mN sv nd wr tl (if (inR x 4 ∧ inR y 10 ∧ lt (nOf x) = 0 ∧ inI td 100000 z) then upd lt (nOf x) (nI 1) else lt) (if (inR x 4 ∧ inR y 10 ∧ lt (nOf x) = 0 ∧ inI td 100000 z) then updN lT (nOf x) (nOf y) else lT) (if (inR x 4 ∧ inR y 10 ∧ lt (nOf x) = 0 ∧ inI td 100000 z) then updN lD (nOf x) (nOf z) else lD) gv gn od br)]) s.heap := by rw [← ew3]; exact hP
    have hD : va_D A (fl [(wO kC ad td rn pn an jn tn bm fw gp ga bp fc fj rA rC ft kd aG sR sT wh dY pd cN mN sv nd wr tl (if (inR x 4 ∧ inR y 10 ∧ lt (nOf x) = 0 ∧ inI td 100000 z) then upd lt (nOf x) (nI 1) else lt) (if (inR x 4 ∧ inR y 10 ∧ lt (nOf x) = 0 ∧ inI td 100000 z) then updN lT (nOf x) (nOf y) else lT) (if (inR x 4 ∧ inR y 10 ∧ lt (nOf x) = 0 ∧ inI td 100000 z) then updN lD (nOf x) (nOf z) else lD) gv gn od br)]) := by rw [← ew3]; exact hD
    exact W.zret (v := nI 0) hx hb hr (nar_b (by first | exact Or.inl rfl | exact Or.inr rfl | exact bI_01)) (fun t ht hW => by subst hAe; exact ⟨⟨(nI 0), (), rfl, (bI_f hC).symm, by rw [ht]; exact hP, va_K.moved hW.alike hK, hD⟩, hS.F ht⟩) (by subst hAe; exact hS.2.2) d_O_lend_42
  · refine lv_iload_n hx hb d_O_lend_4 rfl (lv_at hl 1 rfl) ?_
    refine lv_iconst (v := nI 4) hx hb d_O_lend_5 (by decide) ?_
    refine lv_icmp_ge (tgt := 41) hx hb d_O_lend_6 (by decide) (fun h1 => ?_) (fun h1 => ?_)
    · have hC : ¬ (inR x 4 ∧ inR y 10 ∧ lt (nOf x) = 0 ∧ inI td 100000 z) := fun q => by first | exact bI_0.mp h4 (inL_i.mpr q.2.2.2) | (have q3 := q.2.2.1; rw [nOf_nI (by omega)] at q3; exact h3 q3) | exact bI_0.mp h2 q.2.1 | exact inR_ge (by decide) h1 q.1 | exact inR_lt h0 q.1
      refine lv_iconst (v := nI 0) hx hb d_O_lend_41 (by decide) ?_
      have ew4 : lt = (if (inR x 4 ∧ inR y 10 ∧ lt (nOf x) = 0 ∧ inI td 100000 z) then upd lt (nOf x) (nI 1) else lt) := (if_neg hC).symm
      have hP : va_P D cls (fl [(wO kC ad td rn pn an jn tn bm fw gp ga bp fc fj rA rC ft kd aG sR sT wh dY pd cN mN sv nd wr tl (if (inR x 4 ∧ inR y 10 ∧ lt (nOf x) = 0 ∧ inI td 100000 z) then upd lt (nOf x) (nI 1) else lt) lT lD gv gn od br)]) s.heap := by rw [← ew4]; exact hP
      have hD : va_D A (fl [(wO kC ad td rn pn an jn tn bm fw gp ga bp fc fj rA rC ft kd aG sR sT wh dY pd cN mN sv nd wr tl (if (inR x 4 ∧ inR y 10 ∧ lt (nOf x) = 0 ∧ inI td 100000 z) then upd lt (nOf x) (nI 1) else lt) lT lD gv gn od br)]) := by rw [← ew4]; exact hD
      have ew5 : lT = (if (inR x 4 ∧ inR y 10 ∧ lt (nOf x) = 0 ∧ inI td 100000 z) then updN lT (nOf x) (nOf y) else lT) := (if_neg hC).symm
      have hP : va_P D cls (fl [(wO kC ad td rn pn an jn tn bm fw gp ga bp fc fj rA rC ft kd aG sR sT wh dY pd cN mN sv nd wr tl (if (inR x 4 ∧ inR y 10 ∧ lt (nOf x) = 0 ∧ inI td 100000 z) then upd lt (nOf x) (nI 1) else lt) (if (inR x 4 ∧ inR y 10 ∧ lt (nOf x) = 0 ∧ inI td 100000 z) then updN lT (nOf x) (nOf y) else lT) lD gv gn od br)]) s.heap := by rw [← ew5]; exact hP
      have hD : va_D A (fl [(wO kC ad td rn pn an jn tn bm fw gp ga bp fc fj rA rC ft kd aG sR sT wh dY pd cN mN sv nd wr tl (if (inR x 4 ∧ inR y 10 ∧ lt (nOf x) = 0 ∧ inI td 100000 z) then upd lt (nOf x) (nI 1) else lt) (if (inR x 4 ∧ inR y 10 ∧ lt (nOf x) = 0 ∧ inI td 100000 z) then updN lT (nOf x) (nOf y) else lT) lD gv gn od br)]) := by rw [← ew5]; exact hD
      have ew6 : lD = (if (inR x 4 ∧ inR y 10 ∧ lt (nOf x) = 0 ∧ inI td 100000 z) then updN lD (nOf x) (nOf z) else lD) := (if_neg hC).symm
      have hP : va_P D cls (fl [(wO kC ad td rn pn an jn tn bm fw gp ga bp fc fj rA rC ft kd aG sR sT wh dY pd cN mN sv nd wr tl (if (inR x 4 ∧ inR y 10 ∧ lt (nOf x) = 0 ∧ inI td 100000 z) then upd lt (nOf x) (nI 1) else lt) (if (inR x 4 ∧ inR y 10 ∧ lt (nOf x) = 0 ∧ inI td 100000 z) then updN lT (nOf x) (nOf y) else lT) (if (inR x 4 ∧ inR y 10 ∧ lt (nOf x) = 0 ∧ inI td 100000 z) then updN lD (nOf x) (nOf z) else lD) gv gn od br)]) s.heap := by rw [← ew6]; exact hP
      have hD : va_D A (fl [(wO kC ad td rn pn an jn tn bm fw gp ga bp fc fj rA rC ft kd aG sR sT wh dY pd cN mN sv nd wr tl (if (inR x 4 ∧ inR y 10 ∧ lt (nOf x) = 0 ∧ inI td 100000 z) then upd lt (nOf x) (nI 1) else lt) (if (inR x 4 ∧ inR y 10 ∧ lt (nOf x) = 0 ∧ inI td 100000 z) then updN lT (nOf x) (nOf y) else lT) (if (inR x 4 ∧ inR y 10 ∧ lt (nOf x) = 0 ∧ inI td 100000 z) then updN lD (nOf x) (nOf z) else lD) gv gn od br)]) := by rw [← ew6]; exact hD
      exact W.zret (v := nI 0) hx hb hr (nar_b (by first | exact Or.inl rfl | exact Or.inr rfl | exact bI_01)) (fun t ht hW => by subst hAe; exact ⟨⟨(nI 0), (), rfl, (bI_f hC).symm, by rw [ht]; exact hP, va_K.moved hW.alike hK, hD⟩, hS.F ht⟩) (by subst hAe; exact hS.2.2) d_O_lend_42
    · obtain ⟨j, hj, rfl⟩ := in_of (by decide) h0 h1
      refine lv_iload_n hx hb d_O_lend_9 rfl (lv_at hl 2 rfl) ?_
      refine r_calli (W.runS (As := [.int y]) (rest := []) ⟨hx, hb, hml, hown, hts⟩ (c_O_isPerson l y) (cwS 1 hts g_O_lend_isPerson rfl rfl rfl (by decide +kernel) ⟨Nat.le_of_ble_eq_true rfl, Nat.le_of_ble_eq_true rfl⟩) p0_preS rfl rfl hl.1 rfl (lv_room (Nat.le_of_ble_eq_true rfl)) d_O_lend_10 ⟨Nat.le_of_ble_eq_true rfl, Nat.le_of_ble_eq_true rfl⟩) ?_
      refine lv_if_eq (tgt := 41) hx hb d_O_lend_13 (by decide) (fun h2 => ?_) (fun h2 => ?_)
      · have hC : ¬ (inR (nI j) 4 ∧ inR y 10 ∧ lt (nOf (nI j)) = 0 ∧ inI td 100000 z) := fun q => by first | exact bI_0.mp h4 (inL_i.mpr q.2.2.2) | (have q3 := q.2.2.1; rw [nOf_nI (by omega)] at q3; exact h3 q3) | exact bI_0.mp h2 q.2.1 | exact inR_ge (by decide) h1 q.1 | exact inR_lt h0 q.1
        refine lv_iconst (v := nI 0) hx hb d_O_lend_41 (by decide) ?_
        have ew7 : lt = (if (inR (nI j) 4 ∧ inR y 10 ∧ lt (nOf (nI j)) = 0 ∧ inI td 100000 z) then upd lt (nOf (nI j)) (nI 1) else lt) := (if_neg hC).symm
        have hP : va_P D cls (fl [(wO kC ad td rn pn an jn tn bm fw gp ga bp fc fj rA rC ft kd aG sR sT wh dY pd cN mN sv nd wr tl (if (inR (nI j) 4 ∧ inR y 10 ∧ lt (nOf (nI j)) = 0 ∧ inI td 100000 z) then upd lt (nOf (nI j)) (nI 1) else lt) lT lD gv gn od br)]) s.heap := by rw [← ew7]; exact hP
        have hD : va_D A (fl [(wO kC ad td rn pn an jn tn bm fw gp ga bp fc fj rA rC ft kd aG sR sT wh dY pd cN mN sv nd wr tl (if (inR (nI j) 4 ∧ inR y 10 ∧ lt (nOf (nI j)) = 0 ∧ inI td 100000 z) then upd lt (nOf (nI j)) (nI 1) else lt) lT lD gv gn od br)]) := by rw [← ew7]; exact hD
        have ew8 : lT = (if (inR (nI j) 4 ∧ inR y 10 ∧ lt (nOf (nI j)) = 0 ∧ inI td 100000 z) then updN lT (nOf (nI j)) (nOf y) else lT) := (if_neg hC).symm
        have hP : va_P D cls (fl [(wO kC ad td rn pn an jn tn bm fw gp ga bp fc fj rA rC ft kd aG sR sT wh dY pd cN mN sv nd wr tl (if (inR (nI j) 4 ∧ inR y 10 ∧ lt (nOf (nI j)) = 0 ∧ inI td 100000 z) then upd lt (nOf (nI j)) (nI 1) else lt) (if (inR (nI j) 4 ∧ inR y 10 ∧ lt (nOf (nI j)) = 0 ∧ inI td 100000 z) then updN lT (nOf (nI j)) (nOf y) else lT) lD gv gn od br)]) s.heap := by rw [← ew8]; exact hP
        have hD : va_D A (fl [(wO kC ad td rn pn an jn tn bm fw gp ga bp fc fj rA rC ft kd aG sR sT wh dY pd cN mN sv nd wr tl (if (inR (nI j) 4 ∧ inR y 10 ∧ lt (nOf (nI j)) = 0 ∧ inI td 100000 z) then upd lt (nOf (nI j)) (nI 1) else lt) (if (inR (nI j) 4 ∧ inR y 10 ∧ lt (nOf (nI j)) = 0 ∧ inI td 100000 z) then updN lT (nOf (nI j)) (nOf y) else lT) lD gv gn od br)]) := by rw [← ew8]; exact hD
        have ew9 : lD = (if (inR (nI j) 4 ∧ inR y 10 ∧ lt (nOf (nI j)) = 0 ∧ inI td 100000 z) then updN lD (nOf (nI j)) (nOf z) else lD) := (if_neg hC).symm
        have hP : va_P D cls (fl [(wO kC ad td rn pn an jn tn bm fw gp ga bp fc fj rA rC ft kd aG sR sT wh dY pd cN mN sv nd wr tl (if (inR (nI j) 4 ∧ inR y 10 ∧ lt (nOf (nI j)) = 0 ∧ inI td 100000 z) then upd lt (nOf (nI j)) (nI 1) else lt) (if (inR (nI j) 4 ∧ inR y 10 ∧ lt (nOf (nI j)) = 0 ∧ inI td 100000 z) then updN lT (nOf (nI j)) (nOf y) else lT) (if (inR (nI j) 4 ∧ inR y 10 ∧ lt (nOf (nI j)) = 0 ∧ inI td 100000 z) then updN lD (nOf (nI j)) (nOf z) else lD) gv gn od br)]) s.heap := by rw [← ew9]; exact hP
        have hD : va_D A (fl [(wO kC ad td rn pn an jn tn bm fw gp ga bp fc fj rA rC ft kd aG sR sT wh dY pd cN mN sv nd wr tl (if (inR (nI j) 4 ∧ inR y 10 ∧ lt (nOf (nI j)) = 0 ∧ inI td 100000 z) then upd lt (nOf (nI j)) (nI 1) else lt) (if (inR (nI j) 4 ∧ inR y 10 ∧ lt (nOf (nI j)) = 0 ∧ inI td 100000 z) then updN lT (nOf (nI j)) (nOf y) else lT) (if (inR (nI j) 4 ∧ inR y 10 ∧ lt (nOf (nI j)) = 0 ∧ inI td 100000 z) then updN lD (nOf (nI j)) (nOf z) else lD) gv gn od br)]) := by rw [← ew9]; exact hD
        exact W.zret (v := nI 0) hx hb hr (nar_b (by first | exact Or.inl rfl | exact Or.inr rfl | exact bI_01)) (fun t ht hW => by subst hAe; exact ⟨⟨(nI 0), (), rfl, (bI_f hC).symm, by rw [ht]; exact hP, va_K.moved hW.alike hK, hD⟩, hS.F ht⟩) (by subst hAe; exact hS.2.2) d_O_lend_42
      · have h2 := bI_n0.mp h2
        refine lv_aload_n hx hb d_O_lend_16 rfl (lv_at hl 0 rfl) ?_
        refine fv_get (ci := 7) (v := .ref (ad 17)) (C := R_O) (T := F_O) (N := 36) hx hb hts (by decide +kernel) hown hK hP 0 0 rfl rfl rfl 22 (by decide) (hts (.fieldLink R_O 60 "PartShelvesModel" "lent" "[Z") (by decide +kernel)) (fun _ h9 => h9) rfl d_O_lend_17 ?_
        refine lv_iload_n hx hb d_O_lend_20 rfl (lv_at hl 1 rfl) ?_
        refine fa_zald hx hb hK hP 0 17 2 rfl rfl rfl (by omega) (by decide) d_O_lend_21 ?_
        refine lv_if_ne (tgt := 41) hx hb d_O_lend_22 (by decide) (fun h3 => ?_) (fun h3 => ?_)
        · have hC : ¬ (inR (nI j) 4 ∧ inR y 10 ∧ lt (nOf (nI j)) = 0 ∧ inI td 100000 z) := fun q => by first | exact bI_0.mp h4 (inL_i.mpr q.2.2.2) | (have q3 := q.2.2.1; rw [nOf_nI (by omega)] at q3; exact h3 q3) | exact bI_0.mp h2 q.2.1 | exact inR_ge (by decide) h1 q.1 | exact inR_lt h0 q.1
          refine lv_iconst (v := nI 0) hx hb d_O_lend_41 (by decide) ?_
          have ew10 : lt = (if (inR (nI j) 4 ∧ inR y 10 ∧ lt (nOf (nI j)) = 0 ∧ inI td 100000 z) then upd lt (nOf (nI j)) (nI 1) else lt) := (if_neg hC).symm
          have hP : va_P D cls (fl [(wO kC ad td rn pn an jn tn bm fw gp ga bp fc fj rA rC ft kd aG sR sT wh dY pd cN mN sv nd wr tl (if (inR (nI j) 4 ∧ inR y 10 ∧ lt (nOf (nI j)) = 0 ∧ inI td 100000 z) then upd lt (nOf (nI j)) (nI 1) else lt) lT lD gv gn od br)]) s.heap := by rw [← ew10]; exact hP
          have hD : va_D A (fl [(wO kC ad td rn pn an jn tn bm fw gp ga bp fc fj rA rC ft kd aG sR sT wh dY pd cN mN sv nd wr tl (if (inR (nI j) 4 ∧ inR y 10 ∧ lt (nOf (nI j)) = 0 ∧ inI td 100000 z) then upd lt (nOf (nI j)) (nI 1) else lt) lT lD gv gn od br)]) := by rw [← ew10]; exact hD
          have ew11 : lT = (if (inR (nI j) 4 ∧ inR y 10 ∧ lt (nOf (nI j)) = 0 ∧ inI td 100000 z) then updN lT (nOf (nI j)) (nOf y) else lT) := (if_neg hC).symm
          have hP : va_P D cls (fl [(wO kC ad td rn pn an jn tn bm fw gp ga bp fc fj rA rC ft kd aG sR sT wh dY pd cN mN sv nd wr tl (if (inR (nI j) 4 ∧ inR y 10 ∧ lt (nOf (nI j)) = 0 ∧ inI td 100000 z) then upd lt (nOf (nI j)) (nI 1) else lt) (if (inR (nI j) 4 ∧ inR y 10 ∧ lt (nOf (nI j)) = 0 ∧ inI td 100000 z) then updN lT (nOf (nI j)) (nOf y) else lT) lD gv gn od br)]) s.heap := by rw [← ew11]; exact hP
          have hD : va_D A (fl [(wO kC ad td rn pn an jn tn bm fw gp ga bp fc fj rA rC ft kd aG sR sT wh dY pd cN mN sv nd wr tl (if (inR (nI j) 4 ∧ inR y 10 ∧ lt (nOf (nI j)) = 0 ∧ inI td 100000 z) then upd lt (nOf (nI j)) (nI 1) else lt) (if (inR (nI j) 4 ∧ inR y 10 ∧ lt (nOf (nI j)) = 0 ∧ inI td 100000 z) then updN lT (nOf (nI j)) (nOf y) else lT) lD gv gn od br)]) := by rw [← ew11]; exact hD
          have ew12 : lD = (if (inR (nI j) 4 ∧ inR y 10 ∧ lt (nOf (nI j)) = 0 ∧ inI td 100000 z) then updN lD (nOf (nI j)) (nOf z) else lD) := (if_neg hC).symm
          have hP : va_P D cls (fl [(wO kC ad td rn pn an jn tn bm fw gp ga bp fc fj rA rC ft kd aG sR sT wh dY pd cN mN sv nd wr tl (if (inR (nI j) 4 ∧ inR y 10 ∧ lt (nOf (nI j)) = 0 ∧ inI td 100000 z) then upd lt (nOf (nI j)) (nI 1) else lt) (if (inR (nI j) 4 ∧ inR y 10 ∧ lt (nOf (nI j)) = 0 ∧ inI td 100000 z) then updN lT (nOf (nI j)) (nOf y) else lT) (if (inR (nI j) 4 ∧ inR y 10 ∧ lt (nOf (nI j)) = 0 ∧ inI td 100000 z) then updN lD (nOf (nI j)) (nOf z) else lD) gv gn od br)]) s.heap := by rw [← ew12]; exact hP
          have hD : va_D A (fl [(wO kC ad td rn pn an jn tn bm fw gp ga bp fc fj rA rC ft kd aG sR sT wh dY pd cN mN sv nd wr tl (if (inR (nI j) 4 ∧ inR y 10 ∧ lt (nOf (nI j)) = 0 ∧ inI td 100000 z) then upd lt (nOf (nI j)) (nI 1) else lt) (if (inR (nI j) 4 ∧ inR y 10 ∧ lt (nOf (nI j)) = 0 ∧ inI td 100000 z) then updN lT (nOf (nI j)) (nOf y) else lT) (if (inR (nI j) 4 ∧ inR y 10 ∧ lt (nOf (nI j)) = 0 ∧ inI td 100000 z) then updN lD (nOf (nI j)) (nOf z) else lD) gv gn od br)]) := by rw [← ew12]; exact hD
          exact W.zret (v := nI 0) hx hb hr (nar_b (by first | exact Or.inl rfl | exact Or.inr rfl | exact bI_01)) (fun t ht hW => by subst hAe; exact ⟨⟨(nI 0), (), rfl, (bI_f hC).symm, by rw [ht]; exact hP, va_K.moved hW.alike hK, hD⟩, hS.F ht⟩) (by subst hAe; exact hS.2.2) d_O_lend_42
        · refine lv_iload_n hx hb d_O_lend_25 rfl (lv_at hl 3 rfl) ?_
          refine lv_i2l hx hb d_O_lend_26 rfl ?_
          refine lv_aload_n hx hb d_O_lend_27 rfl (lv_at hl 0 rfl) ?_
          refine fv_get (ci := 7) (v := .int (nI td)) (C := R_O) (T := F_O) (N := 36) hx hb hts (by decide +kernel) hown hK hP 0 0 rfl rfl rfl 0 (by decide) (hts (.fieldLink R_O 88 "PartShelvesModel" "today" "I") (by decide +kernel)) (fun _ h9 => h9) rfl d_O_lend_28 ?_
          refine nv_i2l hx hb d_O_lend_31 (by omega) ?_
          refine lv_ldc2 (v := 100000) hx hb hown (hts (.constantLong R_O 91 100000) (by decide +kernel)) d_O_lend_32 ?_
          refine nv_topl (y := lN 100000) (by decide +kernel) ?_
          refine r_calli (W.runS (As := [.long z.toInt64, .long (lN td), .long (lN 100000)]) (rest := []) ⟨hx, hb, hml, hown, hts⟩ (c_O_isIn l z.toInt64 td 100000 (by omega) (by decide)) (cwS 3 hts g_O_lend_isIn rfl rfl rfl (by decide +kernel) ⟨Nat.le_of_ble_eq_true rfl, Nat.le_of_ble_eq_true rfl⟩) p0_preS rfl rfl hl.1 rfl (lv_room (Nat.le_of_ble_eq_true rfl)) d_O_lend_35 ⟨Nat.le_of_ble_eq_true rfl, Nat.le_of_ble_eq_true rfl⟩) ?_
          refine lv_if_ne (tgt := 43) hx hb d_O_lend_38 (by decide) (fun h4 => ?_) (fun h4 => ?_)
          · have h4 := inL_i.mp (bI_n0.mp h4)
            have hC : (inR (nI j) 4 ∧ inR y 10 ∧ lt (nOf (nI j)) = 0 ∧ inI td 100000 z) := ⟨(inR_nI (by omega)).mpr hj, h2, by rw [nOf_nI (by omega)]; exact h3, h4⟩
            obtain ⟨k, hk, rfl⟩ := inR_n (by decide) h2
            obtain ⟨i, hi1, hi2, rfl⟩ := inI_n (by decide) h4
            refine lv_aload_n hx hb d_O_lend_43 rfl (lv_at hl 0 rfl) ?_
            refine fv_get (ci := 7) (v := .ref (ad 17)) (C := R_O) (T := F_O) (N := 36) hx hb hts (by decide +kernel) hown hK hP 0 0 rfl rfl rfl 22 (by decide) (hts (.fieldLink R_O 60 "PartShelvesModel" "lent" "[Z") (by decide +kernel)) (fun _ h9 => h9) rfl d_O_lend_44 ?_
            refine lv_iload_n hx hb d_O_lend_47 rfl (lv_at hl 1 rfl) ?_
            refine lv_iconst (v := nI 1) hx hb d_O_lend_48 (by decide) ?_
            refine fa_zast hx hb hK hP hD hS 0 17 2 rfl rfl rfl (by decide) (by omega) (by decide) d_O_lend_49 (fun H locs hP hD hS => ?_)
            have hP : va_P D cls (fl [(wO kC ad td rn pn an jn tn bm fw gp ga bp fc fj rA rC ft kd aG sR sT wh dY pd cN mN sv nd wr tl (upd lt j (nI 1)) lT lD gv gn od br)]) H := hP
            have hD : va_D A (fl [(wO kC ad td rn pn an jn tn bm fw gp ga bp fc fj rA rC ft kd aG sR sT wh dY pd cN mN sv nd wr tl (upd lt j (nI 1)) lT lD gv gn od br)]) := hD
            refine lv_aload_n hx hb d_O_lend_50 rfl (lv_at hl 0 rfl) ?_
            refine fv_get (ci := 7) (v := .ref (ad 18)) (C := R_O) (T := F_O) (N := 36) hx hb hts (by decide +kernel) hown hK hP 0 0 rfl rfl rfl 23 (by decide) (hts (.fieldLink R_O 63 "PartShelvesModel" "lentTo" "[I") (by decide +kernel)) (fun _ h9 => h9) rfl d_O_lend_51 ?_
            refine lv_iload_n hx hb d_O_lend_54 rfl (lv_at hl 1 rfl) ?_
            refine lv_iload_n hx hb d_O_lend_55 rfl (lv_at hl 2 rfl) ?_
            refine fa_iastN hx hb hK hP hD hS 0 18 0 rfl rfl rfl (by omega) (by decide) d_O_lend_56 (fun H locs hP hD hS => ?_)
            have hP : va_P D cls (fl [(wO kC ad td rn pn an jn tn bm fw gp ga bp fc fj rA rC ft kd aG sR sT wh dY pd cN mN sv nd wr tl (upd lt j (nI 1)) (updN lT j k) lD gv gn od br)]) H := hP
            have hD : va_D A (fl [(wO kC ad td rn pn an jn tn bm fw gp ga bp fc fj rA rC ft kd aG sR sT wh dY pd cN mN sv nd wr tl (upd lt j (nI 1)) (updN lT j k) lD gv gn od br)]) := hD
            refine lv_aload_n hx hb d_O_lend_57 rfl (lv_at hl 0 rfl) ?_
            refine fv_get (ci := 7) (v := .ref (ad 19)) (C := R_O) (T := F_O) (N := 36) hx hb hts (by decide +kernel) hown hK hP 0 0 rfl rfl rfl 24 (by decide) (hts (.fieldLink R_O 66 "PartShelvesModel" "lentDay" "[I") (by decide +kernel)) (fun _ h9 => h9) rfl d_O_lend_58 ?_
            refine lv_iload_n hx hb d_O_lend_61 rfl (lv_at hl 1 rfl) ?_
            refine lv_iload_n hx hb d_O_lend_62 rfl (lv_at hl 3 rfl) ?_
            refine fa_iastN hx hb hK hP hD hS 0 19 0 rfl rfl rfl (by omega) (by decide) d_O_lend_63 (fun H locs hP hD hS => ?_)
            have hP : va_P D cls (fl [(wO kC ad td rn pn an jn tn bm fw gp ga bp fc fj rA rC ft kd aG sR sT wh dY pd cN mN sv nd wr tl (upd lt j (nI 1)) (updN lT j k) (updN lD j i) gv gn od br)]) H := hP
            have hD : va_D A (fl [(wO kC ad td rn pn an jn tn bm fw gp ga bp fc fj rA rC ft kd aG sR sT wh dY pd cN mN sv nd wr tl (upd lt j (nI 1)) (updN lT j k) (updN lD j i) gv gn od br)]) := hD
            refine lv_iconst (v := nI 1) hx hb d_O_lend_64 (by decide) ?_
            have ew13 : (upd lt j (nI 1)) = (if (inR (nI j) 4 ∧ inR (nI k) 10 ∧ lt (nOf (nI j)) = 0 ∧ inI td 100000 (nI i)) then upd lt (nOf (nI j)) (nI 1) else lt) := by rw [if_pos hC, nOf_nI (by omega)]
            have hP : va_P D cls (fl [(wO kC ad td rn pn an jn tn bm fw gp ga bp fc fj rA rC ft kd aG sR sT wh dY pd cN mN sv nd wr tl (if (inR (nI j) 4 ∧ inR (nI k) 10 ∧ lt (nOf (nI j)) = 0 ∧ inI td 100000 (nI i)) then upd lt (nOf (nI j)) (nI 1) else lt) (updN lT j k) (updN lD j i) gv gn od br)]) H := by rw [← ew13]; exact hP
            have hD : va_D A (fl [(wO kC ad td rn pn an jn tn bm fw gp ga bp fc fj rA rC ft kd aG sR sT wh dY pd cN mN sv nd wr tl (if (inR (nI j) 4 ∧ inR (nI k) 10 ∧ lt (nOf (nI j)) = 0 ∧ inI td 100000 (nI i)) then upd lt (nOf (nI j)) (nI 1) else lt) (updN lT j k) (updN lD j i) gv gn od br)]) := by rw [← ew13]; exact hD
            have ew14 : (updN lT j k) = (if (inR (nI j) 4 ∧ inR (nI k) 10 ∧ lt (nOf (nI j)) = 0 ∧ inI td 100000 (nI i)) then updN lT (nOf (nI j)) (nOf (nI k)) else lT) := by rw [if_pos hC, nOf_nI (by omega), nOf_nI (by omega)]
            have hP : va_P D cls (fl [(wO kC ad td rn pn an jn tn bm fw gp ga bp fc fj rA rC ft kd aG sR sT wh dY pd cN mN sv nd wr tl (if (inR (nI j) 4 ∧ inR (nI k) 10 ∧ lt (nOf (nI j)) = 0 ∧ inI td 100000 (nI i)) then upd lt (nOf (nI j)) (nI 1) else lt) (if (inR (nI j) 4 ∧ inR (nI k) 10 ∧ lt (nOf (nI j)) = 0 ∧ inI td 100000 (nI i)) then updN lT (nOf (nI j)) (nOf (nI k)) else lT) (updN lD j i) gv gn od br)]) H := by rw [← ew14]; exact hP
            have hD : va_D A (fl [(wO kC ad td rn pn an jn tn bm fw gp ga bp fc fj rA rC ft kd aG sR sT wh dY pd cN mN sv nd wr tl (if (inR (nI j) 4 ∧ inR (nI k) 10 ∧ lt (nOf (nI j)) = 0 ∧ inI td 100000 (nI i)) then upd lt (nOf (nI j)) (nI 1) else lt) (if (inR (nI j) 4 ∧ inR (nI k) 10 ∧ lt (nOf (nI j)) = 0 ∧ inI td 100000 (nI i)) then updN lT (nOf (nI j)) (nOf (nI k)) else lT) (updN lD j i) gv gn od br)]) := by rw [← ew14]; exact hD
            have ew15 : (updN lD j i) = (if (inR (nI j) 4 ∧ inR (nI k) 10 ∧ lt (nOf (nI j)) = 0 ∧ inI td 100000 (nI i)) then updN lD (nOf (nI j)) (nOf (nI i)) else lD) := by rw [if_pos hC, nOf_nI (by omega), nOf_nI (by omega)]
            have hP : va_P D cls (fl [(wO kC ad td rn pn an jn tn bm fw gp ga bp fc fj rA rC ft kd aG sR sT wh dY pd cN mN sv nd wr tl (if (inR (nI j) 4 ∧ inR (nI k) 10 ∧ lt (nOf (nI j)) = 0 ∧ inI td 100000 (nI i)) then upd lt (nOf (nI j)) (nI 1) else lt) (if (inR (nI j) 4 ∧ inR (nI k) 10 ∧ lt (nOf (nI j)) = 0 ∧ inI td 100000 (nI i)) then updN lT (nOf (nI j)) (nOf (nI k)) else lT) (if (inR (nI j) 4 ∧ inR (nI k) 10 ∧ lt (nOf (nI j)) = 0 ∧ inI td 100000 (nI i)) then updN lD (nOf (nI j)) (nOf (nI i)) else lD) gv gn od br)]) H := by rw [← ew15]; exact hP
            have hD : va_D A (fl [(wO kC ad td rn pn an jn tn bm fw gp ga bp fc fj rA rC ft kd aG sR sT wh dY pd cN mN sv nd wr tl (if (inR (nI j) 4 ∧ inR (nI k) 10 ∧ lt (nOf (nI j)) = 0 ∧ inI td 100000 (nI i)) then upd lt (nOf (nI j)) (nI 1) else lt) (if (inR (nI j) 4 ∧ inR (nI k) 10 ∧ lt (nOf (nI j)) = 0 ∧ inI td 100000 (nI i)) then updN lT (nOf (nI j)) (nOf (nI k)) else lT) (if (inR (nI j) 4 ∧ inR (nI k) 10 ∧ lt (nOf (nI j)) = 0 ∧ inI td 100000 (nI i)) then updN lD (nOf (nI j)) (nOf (nI i)) else lD) gv gn od br)]) := by rw [← ew15]; exact hD
            exact W.zret (v := nI 1) hx hb hr (nar_b (by first | exact Or.inl rfl | exact Or.inr rfl | exact bI_01)) (fun t ht hW => by subst hAe; exact ⟨⟨(nI 1), (), rfl, (bI_t hC).symm, by rw [ht]; exact hP, va_K.moved hW.alike hK, hD⟩, hS.F ht⟩) (by subst hAe; exact hS.2.2) d_O_lend_65
          · have hC : ¬ (inR (nI j) 4 ∧ inR y 10 ∧ lt (nOf (nI j)) = 0 ∧ inI td 100000 z) := fun q => by first | exact bI_0.mp h4 (inL_i.mpr q.2.2.2) | (have q3 := q.2.2.1; rw [nOf_nI (by omega)] at q3; exact h3 q3) | exact bI_0.mp h2 q.2.1 | exact inR_ge (by decide) h1 q.1 | exact inR_lt h0 q.1
            refine lv_iconst (v := nI 0) hx hb d_O_lend_41 (by decide) ?_
            have ew16 : lt = (if (inR (nI j) 4 ∧ inR y 10 ∧ lt (nOf (nI j)) = 0 ∧ inI td 100000 z) then upd lt (nOf (nI j)) (nI 1) else lt) := (if_neg hC).symm
            have hP : va_P D cls (fl [(wO kC ad td rn pn an jn tn bm fw gp ga bp fc fj rA rC ft kd aG sR sT wh dY pd cN mN sv nd wr tl (if (inR (nI j) 4 ∧ inR y 10 ∧ lt (nOf (nI j)) = 0 ∧ inI td 100000 z) then upd lt (nOf (nI j)) (nI 1) else lt) lT lD gv gn od br)]) s.heap := by rw [← ew16]; exact hP
            have hD : va_D A (fl [(wO kC ad td rn pn an jn tn bm fw gp ga bp fc fj rA rC ft kd aG sR sT wh dY pd cN mN sv nd wr tl (if (inR (nI j) 4 ∧ inR y 10 ∧ lt (nOf (nI j)) = 0 ∧ inI td 100000 z) then upd lt (nOf (nI j)) (nI 1) else lt) lT lD gv gn od br)]) := by rw [← ew16]; exact hD
            have ew17 : lT = (if (inR (nI j) 4 ∧ inR y 10 ∧ lt (nOf (nI j)) = 0 ∧ inI td 100000 z) then updN lT (nOf (nI j)) (nOf y) else lT) := (if_neg hC).symm
            have hP : va_P D cls (fl [(wO kC ad td rn pn an jn tn bm fw gp ga bp fc fj rA rC ft kd aG sR sT wh dY pd cN mN sv nd wr tl (if (inR (nI j) 4 ∧ inR y 10 ∧ lt (nOf (nI j)) = 0 ∧ inI td 100000 z) then upd lt (nOf (nI j)) (nI 1) else lt) (if (inR (nI j) 4 ∧ inR y 10 ∧ lt (nOf (nI j)) = 0 ∧ inI td 100000 z) then updN lT (nOf (nI j)) (nOf y) else lT) lD gv gn od br)]) s.heap := by rw [← ew17]; exact hP
            have hD : va_D A (fl [(wO kC ad td rn pn an jn tn bm fw gp ga bp fc fj rA rC ft kd aG sR sT wh dY pd cN mN sv nd wr tl (if (inR (nI j) 4 ∧ inR y 10 ∧ lt (nOf (nI j)) = 0 ∧ inI td 100000 z) then upd lt (nOf (nI j)) (nI 1) else lt) (if (inR (nI j) 4 ∧ inR y 10 ∧ lt (nOf (nI j)) = 0 ∧ inI td 100000 z) then updN lT (nOf (nI j)) (nOf y) else lT) lD gv gn od br)]) := by rw [← ew17]; exact hD
            have ew18 : lD = (if (inR (nI j) 4 ∧ inR y 10 ∧ lt (nOf (nI j)) = 0 ∧ inI td 100000 z) then updN lD (nOf (nI j)) (nOf z) else lD) := (if_neg hC).symm
            have hP : va_P D cls (fl [(wO kC ad td rn pn an jn tn bm fw gp ga bp fc fj rA rC ft kd aG sR sT wh dY pd cN mN sv nd wr tl (if (inR (nI j) 4 ∧ inR y 10 ∧ lt (nOf (nI j)) = 0 ∧ inI td 100000 z) then upd lt (nOf (nI j)) (nI 1) else lt) (if (inR (nI j) 4 ∧ inR y 10 ∧ lt (nOf (nI j)) = 0 ∧ inI td 100000 z) then updN lT (nOf (nI j)) (nOf y) else lT) (if (inR (nI j) 4 ∧ inR y 10 ∧ lt (nOf (nI j)) = 0 ∧ inI td 100000 z) then updN lD (nOf (nI j)) (nOf z) else lD) gv gn od br)]) s.heap := by rw [← ew18]; exact hP
            have hD : va_D A (fl [(wO kC ad td rn pn an jn tn bm fw gp ga bp fc fj rA rC ft kd aG sR sT wh dY pd cN mN sv nd wr tl (if (inR (nI j) 4 ∧ inR y 10 ∧ lt (nOf (nI j)) = 0 ∧ inI td 100000 z) then upd lt (nOf (nI j)) (nI 1) else lt) (if (inR (nI j) 4 ∧ inR y 10 ∧ lt (nOf (nI j)) = 0 ∧ inI td 100000 z) then updN lT (nOf (nI j)) (nOf y) else lT) (if (inR (nI j) 4 ∧ inR y 10 ∧ lt (nOf (nI j)) = 0 ∧ inI td 100000 z) then updN lD (nOf (nI j)) (nOf z) else lD) gv gn od br)]) := by rw [← ew18]; exact hD
            exact W.zret (v := nI 0) hx hb hr (nar_b (by first | exact Or.inl rfl | exact Or.inr rfl | exact bI_01)) (fun t ht hW => by subst hAe; exact ⟨⟨(nI 0), (), rfl, (bI_f hC).symm, by rw [ht]; exact hP, va_K.moved hW.alike hK, hD⟩, hS.F ht⟩) (by subst hAe; exact hS.2.2) d_O_lend_42

abbrev b_O_back : ByteArray := prog_9_method_40_code
def y_O_back : MethodName := ⟨"PartShelvesModel", "back", "(I)I"⟩
theorem d_O_back_0 : decode b_O_back 0 = .ok (.iload_n 1, 1) := by decide +kernel
theorem d_O_back_1 : decode b_O_back 1 = .ok (.ifCond .lt 17, 3) := by decide +kernel
theorem d_O_back_4 : decode b_O_back 4 = .ok (.iload_n 1, 1) := by decide +kernel
theorem d_O_back_5 : decode b_O_back 5 = .ok (.iconst 4, 1) := by decide +kernel
theorem d_O_back_6 : decode b_O_back 6 = .ok (.if_icmp .ge 12, 3) := by decide +kernel
theorem d_O_back_9 : decode b_O_back 9 = .ok (.aload_n 0, 1) := by decide +kernel
theorem d_O_back_10 : decode b_O_back 10 = .ok (.getfield 60, 3) := by decide +kernel
theorem d_O_back_13 : decode b_O_back 13 = .ok (.iload_n 1, 1) := by decide +kernel
theorem d_O_back_14 : decode b_O_back 14 = .ok (.baload, 1) := by decide +kernel
theorem d_O_back_15 : decode b_O_back 15 = .ok (.ifCond .ne 5, 3) := by decide +kernel
theorem d_O_back_18 : decode b_O_back 18 = .ok (.iconst (-1), 1) := by decide +kernel
theorem d_O_back_19 : decode b_O_back 19 = .ok (.ireturn, 1) := by decide +kernel
theorem d_O_back_20 : decode b_O_back 20 = .ok (.aload_n 0, 1) := by decide +kernel
theorem d_O_back_21 : decode b_O_back 21 = .ok (.getfield 60, 3) := by decide +kernel
theorem d_O_back_24 : decode b_O_back 24 = .ok (.iload_n 1, 1) := by decide +kernel
theorem d_O_back_25 : decode b_O_back 25 = .ok (.iconst 0, 1) := by decide +kernel
theorem d_O_back_26 : decode b_O_back 26 = .ok (.bastore, 1) := by decide +kernel
theorem d_O_back_27 : decode b_O_back 27 = .ok (.aload_n 0, 1) := by decide +kernel
theorem d_O_back_28 : decode b_O_back 28 = .ok (.getfield 63, 3) := by decide +kernel
theorem d_O_back_31 : decode b_O_back 31 = .ok (.iload_n 1, 1) := by decide +kernel
theorem d_O_back_32 : decode b_O_back 32 = .ok (.iaload, 1) := by decide +kernel
theorem d_O_back_33 : decode b_O_back 33 = .ok (.ireturn, 1) := by decide +kernel
def w_O_back : List Cond := .code y_O_back b_O_back 2 (some .int) :: ([.fieldLink "PartShelvesModel" 60 "PartShelvesModel" "lent" "[Z", .fieldLink "PartShelvesModel" 63 "PartShelvesModel" "lentTo" "[I"] ++ u_ws R_O F_O 36)
set_option maxHeartbeats 4000000 in
set_option maxRecDepth 100000 in
theorem c_O_back (l : Launch) (D : va_G) (kC : Nat → ClassId) (ad : Nat → Nat) (td : Nat) (rn : Nat) (pn : Nat) (an : Nat) (jn : Nat) (tn : Nat) (bm : Int32) (fw : Int64) (gp : Nat) (ga : Nat) (bp : Int32) (fc : Int64) (fj : Nat) (rA : Nat → Nat) (rC : Nat → Nat) (ft : Nat → Int32) (kd : Nat → Nat) (aG : Nat → Nat) (sR : Nat → Nat) (sT : Nat → Nat) (wh : Nat → Nat) (dY : Nat → Nat) (pd : Nat → Nat) (cN : Nat → Nat) (mN : Nat → Nat) (sv : Nat → Int32) (nd : Nat → Nat) (wr : Nat → Nat) (tl : Nat → Nat) (lt : Nat → Int32) (lT : Nat → Nat) (lD : Nat → Nat) (gv : Nat → Int32) (gn : Nat → Int64) (od : Nat → Nat) (br : Nat → Nat) (x : Int32) (sz : Nat) : Met l y_O_back w_O_back ({ frames := 0, cells := 0, slots := 0, locals := 0 } : Room) (gPre cls D (tyL kC) [.ref (ad 0), .int x] (fl [(wO kC ad td rn pn an jn tn bm fw gp ga bp fc fj rA rC ft kd aG sR sT wh dY pd cN mN sv nd wr tl lt lT lD gv gn od br)]) sz) (gQi cls D (tyL kC) (fl [(wO kC ad td rn pn an jn tn bm fw gp ga bp fc fj rA rC ft kd aG sR sT wh dY pd cN mN sv nd wr tl lt lT lD gv gn od br)]) sz (if (inR x 4 ∧ ¬ lt (nOf x) = 0) then nI (lT (nOf x)) else -1) (fl [(wO kC ad td rn pn an jn tn bm fw gp ga bp fc fj rA rC ft kd aG sR sT wh dY pd cN mN sv nd wr tl (if (inR x 4 ∧ ¬ lt (nOf x) = 0) then upd lt (nOf x) (nI 0) else lt) lT lD gv gn od br)])) 0 0 (va_A (fl [(wO kC ad td rn pn an jn tn bm fw gp ga bp fc fj rA rC ft kd aG sR sT wh dY pd cN mN sv nd wr tl lt lT lD gv gn od br)]) sz) := by
  refine Met.ofW (cc := b_O_back) (maxL := 2) (ret := (some .int)) (by decide) rfl ?_
  intro p e s m args below meth c s₁ B hml hv
  obtain ⟨rfl, hsz, hP, hK, hD0⟩ := hv
  have hx := B.exec
  have hb := B.bytes
  have hr := B.returns
  have hts := atoms_spec (ws := w_O_back) B.pre
  have hown : s.vm.findClass R_O = some m.cls := findClass_of_methodNamed B.named
  have hlocks := B.notSynchronized
  subst hsz
  obtain ⟨A, hAe⟩ : ∃ A : Nat → Prop, A = va_A (fl [(wO kC ad td rn pn an jn tn bm fw gp ga bp fc fj rA rC ft kd aG sR sT wh dY pd cN mN sv nd wr tl lt lT lD gv gn od br)]) s.heap.size := ⟨_, rfl⟩
  have hD : va_D A (fl [(wO kC ad td rn pn an jn tn bm fw gp ga bp fc fj rA rC ft kd aG sR sT wh dY pd cN mN sv nd wr tl lt lT lD gv gn od br)]) := by rw [hAe]; exact hD0.self
  have hA : ∀ q : Nat, s.heap.size ≤ q → A q := fun q h => by rw [hAe]; exact Or.inr h
  have hS : va_S A s.heap s.heap [] := va_S.rf
  have hl := lv_entry ([.ref (ad 0), .int x]) (n := 2) (Nat.le_of_ble_eq_true rfl)
  rw [lg_entry_eq]
  generalize (lg_sl ([.ref (ad 0), .int x]) ++ List.replicate (2 - (lg_sl ([.ref (ad 0), .int x])).length) Slot.unset).toArray = ls at hl ⊢
  have hl : lv_has ls 2 [(0, .ref (ad 0)), (1, .int x)] := hl
  refine lv_iload_n hx hb d_O_back_0 rfl (lv_at hl 1 rfl) ?_
  refine lv_if_lt (tgt := 18) hx hb d_O_back_1 (by decide) (fun h0 => ?_) (fun h0 => ?_)
  · have hC : ¬ (inR x 4 ∧ ¬ lt (nOf x) = 0) := fun q => by first | (have q2 := q.2; rw [nOf_nI (by omega)] at q2; exact q2 h2) | exact inR_ge (by decide) h1 q.1 | exact inR_lt h0 q.1
    refine lv_iconst (v := (-1)) hx hb d_O_back_18 (by decide) ?_
    have ew1 : lt = (if (inR x 4 ∧ ¬ lt (nOf x) = 0) then upd lt (nOf x) (nI 0) else lt) := (if_neg hC).symm
    have hP : va_P D cls (fl [(wO kC ad td rn pn an jn tn bm fw gp ga bp fc fj rA rC ft kd aG sR sT wh dY pd cN mN sv nd wr tl (if (inR x 4 ∧ ¬ lt (nOf x) = 0) then upd lt (nOf x) (nI 0) else lt) lT lD gv gn od br)]) s.heap := by rw [← ew1]; exact hP
    have hD : va_D A (fl [(wO kC ad td rn pn an jn tn bm fw gp ga bp fc fj rA rC ft kd aG sR sT wh dY pd cN mN sv nd wr tl (if (inR x 4 ∧ ¬ lt (nOf x) = 0) then upd lt (nOf x) (nI 0) else lt) lT lD gv gn od br)]) := by rw [← ew1]; exact hD
    exact W.iret (v := (-1)) hx hb hr (fun t ht hW => by subst hAe; exact ⟨⟨(-1), (), rfl, (if_neg hC).symm, by rw [ht]; exact hP, va_K.moved hW.alike hK, hD⟩, hS.F ht⟩) (by subst hAe; exact hS.2.2) d_O_back_19
  · refine lv_iload_n hx hb d_O_back_4 rfl (lv_at hl 1 rfl) ?_
    refine lv_iconst (v := nI 4) hx hb d_O_back_5 (by decide) ?_
    refine lv_icmp_ge (tgt := 18) hx hb d_O_back_6 (by decide) (fun h1 => ?_) (fun h1 => ?_)
    · have hC : ¬ (inR x 4 ∧ ¬ lt (nOf x) = 0) := fun q => by first | (have q2 := q.2; rw [nOf_nI (by omega)] at q2; exact q2 h2) | exact inR_ge (by decide) h1 q.1 | exact inR_lt h0 q.1
      refine lv_iconst (v := (-1)) hx hb d_O_back_18 (by decide) ?_
      have ew2 : lt = (if (inR x 4 ∧ ¬ lt (nOf x) = 0) then upd lt (nOf x) (nI 0) else lt) := (if_neg hC).symm
      have hP : va_P D cls (fl [(wO kC ad td rn pn an jn tn bm fw gp ga bp fc fj rA rC ft kd aG sR sT wh dY pd cN mN sv nd wr tl (if (inR x 4 ∧ ¬ lt (nOf x) = 0) then upd lt (nOf x) (nI 0) else lt) lT lD gv gn od br)]) s.heap := by rw [← ew2]; exact hP
      have hD : va_D A (fl [(wO kC ad td rn pn an jn tn bm fw gp ga bp fc fj rA rC ft kd aG sR sT wh dY pd cN mN sv nd wr tl (if (inR x 4 ∧ ¬ lt (nOf x) = 0) then upd lt (nOf x) (nI 0) else lt) lT lD gv gn od br)]) := by rw [← ew2]; exact hD
      exact W.iret (v := (-1)) hx hb hr (fun t ht hW => by subst hAe; exact ⟨⟨(-1), (), rfl, (if_neg hC).symm, by rw [ht]; exact hP, va_K.moved hW.alike hK, hD⟩, hS.F ht⟩) (by subst hAe; exact hS.2.2) d_O_back_19
    · obtain ⟨j, hj, rfl⟩ := in_of (by decide) h0 h1
      refine lv_aload_n hx hb d_O_back_9 rfl (lv_at hl 0 rfl) ?_
      refine fv_get (ci := 7) (v := .ref (ad 17)) (C := R_O) (T := F_O) (N := 36) hx hb hts (by decide +kernel) hown hK hP 0 0 rfl rfl rfl 22 (by decide) (hts (.fieldLink R_O 60 "PartShelvesModel" "lent" "[Z") (by decide +kernel)) (fun _ h9 => h9) rfl d_O_back_10 ?_
      refine lv_iload_n hx hb d_O_back_13 rfl (lv_at hl 1 rfl) ?_
      refine fa_zald hx hb hK hP 0 17 2 rfl rfl rfl (by omega) (by decide) d_O_back_14 ?_
      refine lv_if_ne (tgt := 20) hx hb d_O_back_15 (by decide) (fun h2 => ?_) (fun h2 => ?_)
      · have hC : (inR (nI j) 4 ∧ ¬ lt (nOf (nI j)) = 0) := ⟨(inR_nI (by omega)).mpr hj, by rw [nOf_nI (by omega)]; exact h2⟩
        refine lv_aload_n hx hb d_O_back_20 rfl (lv_at hl 0 rfl) ?_
        refine fv_get (ci := 7) (v := .ref (ad 17)) (C := R_O) (T := F_O) (N := 36) hx hb hts (by decide +kernel) hown hK hP 0 0 rfl rfl rfl 22 (by decide) (hts (.fieldLink R_O 60 "PartShelvesModel" "lent" "[Z") (by decide +kernel)) (fun _ h9 => h9) rfl d_O_back_21 ?_
        refine lv_iload_n hx hb d_O_back_24 rfl (lv_at hl 1 rfl) ?_
        refine lv_iconst (v := nI 0) hx hb d_O_back_25 (by decide) ?_
        refine fa_zast hx hb hK hP hD hS 0 17 2 rfl rfl rfl (by decide) (by omega) (by decide) d_O_back_26 (fun H locs hP hD hS => ?_)
        have hP : va_P D cls (fl [(wO kC ad td rn pn an jn tn bm fw gp ga bp fc fj rA rC ft kd aG sR sT wh dY pd cN mN sv nd wr tl (upd lt j (nI 0)) lT lD gv gn od br)]) H := hP
        have hD : va_D A (fl [(wO kC ad td rn pn an jn tn bm fw gp ga bp fc fj rA rC ft kd aG sR sT wh dY pd cN mN sv nd wr tl (upd lt j (nI 0)) lT lD gv gn od br)]) := hD
        refine lv_aload_n hx hb d_O_back_27 rfl (lv_at hl 0 rfl) ?_
        refine fv_get (ci := 7) (v := .ref (ad 18)) (C := R_O) (T := F_O) (N := 36) hx hb hts (by decide +kernel) hown hK hP 0 0 rfl rfl rfl 23 (by decide) (hts (.fieldLink R_O 63 "PartShelvesModel" "lentTo" "[I") (by decide +kernel)) (fun _ h9 => h9) rfl d_O_back_28 ?_
        refine lv_iload_n hx hb d_O_back_31 rfl (lv_at hl 1 rfl) ?_
        refine fa_ialdN hx hb hK hP 0 18 0 rfl rfl rfl (by omega) (by decide) d_O_back_32 ?_
        have ew3 : (upd lt j (nI 0)) = (if (inR (nI j) 4 ∧ ¬ lt (nOf (nI j)) = 0) then upd lt (nOf (nI j)) (nI 0) else lt) := by rw [if_pos hC, nOf_nI (by omega)]
        have hP : va_P D cls (fl [(wO kC ad td rn pn an jn tn bm fw gp ga bp fc fj rA rC ft kd aG sR sT wh dY pd cN mN sv nd wr tl (if (inR (nI j) 4 ∧ ¬ lt (nOf (nI j)) = 0) then upd lt (nOf (nI j)) (nI 0) else lt) lT lD gv gn od br)]) H := by rw [← ew3]; exact hP
        have hD : va_D A (fl [(wO kC ad td rn pn an jn tn bm fw gp ga bp fc fj rA rC ft kd aG sR sT wh dY pd cN mN sv nd wr tl (if (inR (nI j) 4 ∧ ¬ lt (nOf (nI j)) = 0) then upd lt (nOf (nI j)) (nI 0) else lt) lT lD gv gn od br)]) := by rw [← ew3]; exact hD
        exact W.iret (v := nI (lT j)) hx hb hr (fun t ht hW => by subst hAe; exact ⟨⟨(nI (lT j)), (), rfl, by rw [if_pos hC, nOf_nI (by omega)], by rw [ht]; exact hP, va_K.moved hW.alike hK, hD⟩, hS.F ht⟩) (by subst hAe; exact hS.2.2) d_O_back_33
      · have hC : ¬ (inR (nI j) 4 ∧ ¬ lt (nOf (nI j)) = 0) := fun q => by first | (have q2 := q.2; rw [nOf_nI (by omega)] at q2; exact q2 h2) | exact inR_ge (by decide) h1 q.1 | exact inR_lt h0 q.1
        refine lv_iconst (v := (-1)) hx hb d_O_back_18 (by decide) ?_
        have ew4 : lt = (if (inR (nI j) 4 ∧ ¬ lt (nOf (nI j)) = 0) then upd lt (nOf (nI j)) (nI 0) else lt) := (if_neg hC).symm
        have hP : va_P D cls (fl [(wO kC ad td rn pn an jn tn bm fw gp ga bp fc fj rA rC ft kd aG sR sT wh dY pd cN mN sv nd wr tl (if (inR (nI j) 4 ∧ ¬ lt (nOf (nI j)) = 0) then upd lt (nOf (nI j)) (nI 0) else lt) lT lD gv gn od br)]) s.heap := by rw [← ew4]; exact hP
        have hD : va_D A (fl [(wO kC ad td rn pn an jn tn bm fw gp ga bp fc fj rA rC ft kd aG sR sT wh dY pd cN mN sv nd wr tl (if (inR (nI j) 4 ∧ ¬ lt (nOf (nI j)) = 0) then upd lt (nOf (nI j)) (nI 0) else lt) lT lD gv gn od br)]) := by rw [← ew4]; exact hD
        exact W.iret (v := (-1)) hx hb hr (fun t ht hW => by subst hAe; exact ⟨⟨(-1), (), rfl, (if_neg hC).symm, by rw [ht]; exact hP, va_K.moved hW.alike hK, hD⟩, hS.F ht⟩) (by subst hAe; exact hS.2.2) d_O_back_19

abbrev b_O_late : ByteArray := prog_9_method_41_code
def y_O_late : MethodName := ⟨"PartShelvesModel", "late", "(I)I"⟩
theorem d_O_late_0 : decode b_O_late 0 = .ok (.iconst 0, 1) := by decide +kernel
theorem d_O_late_1 : decode b_O_late 1 = .ok (.istore_n 2, 1) := by decide +kernel
theorem d_O_late_2 : decode b_O_late 2 = .ok (.iconst 0, 1) := by decide +kernel
theorem d_O_late_3 : decode b_O_late 3 = .ok (.istore_n 3, 1) := by decide +kernel
theorem d_O_late_4 : decode b_O_late 4 = .ok (.iload_n 3, 1) := by decide +kernel
theorem d_O_late_5 : decode b_O_late 5 = .ok (.iconst 4, 1) := by decide +kernel
theorem d_O_late_6 : decode b_O_late 6 = .ok (.if_icmp .ge 63, 3) := by decide +kernel
theorem d_O_late_9 : decode b_O_late 9 = .ok (.aload_n 0, 1) := by decide +kernel
theorem d_O_late_10 : decode b_O_late 10 = .ok (.getfield 60, 3) := by decide +kernel
theorem d_O_late_13 : decode b_O_late 13 = .ok (.iload_n 3, 1) := by decide +kernel
theorem d_O_late_14 : decode b_O_late 14 = .ok (.baload, 1) := by decide +kernel
theorem d_O_late_15 : decode b_O_late 15 = .ok (.ifCond .eq 20, 3) := by decide +kernel
theorem d_O_late_18 : decode b_O_late 18 = .ok (.aload_n 0, 1) := by decide +kernel
theorem d_O_late_19 : decode b_O_late 19 = .ok (.getfield 66, 3) := by decide +kernel
theorem d_O_late_22 : decode b_O_late 22 = .ok (.iload_n 3, 1) := by decide +kernel
theorem d_O_late_23 : decode b_O_late 23 = .ok (.iaload, 1) := by decide +kernel
theorem d_O_late_24 : decode b_O_late 24 = .ok (.aload_n 0, 1) := by decide +kernel
theorem d_O_late_25 : decode b_O_late 25 = .ok (.getfield 88, 3) := by decide +kernel
theorem d_O_late_28 : decode b_O_late 28 = .ok (.if_icmp .ge 7, 3) := by decide +kernel
theorem d_O_late_31 : decode b_O_late 31 = .ok (.iconst 1, 1) := by decide +kernel
theorem d_O_late_32 : decode b_O_late 32 = .ok (.goto 4, 3) := by decide +kernel
theorem d_O_late_35 : decode b_O_late 35 = .ok (.iconst 0, 1) := by decide +kernel
theorem d_O_late_36 : decode b_O_late 36 = .ok (.istore 4, 2) := by decide +kernel
theorem d_O_late_38 : decode b_O_late 38 = .ok (.iload 4, 2) := by decide +kernel
theorem d_O_late_40 : decode b_O_late 40 = .ok (.ifCond .eq 10, 3) := by decide +kernel
theorem d_O_late_43 : decode b_O_late 43 = .ok (.iload_n 2, 1) := by decide +kernel
theorem d_O_late_44 : decode b_O_late 44 = .ok (.iload_n 1, 1) := by decide +kernel
theorem d_O_late_45 : decode b_O_late 45 = .ok (.if_icmp .ne 5, 3) := by decide +kernel
theorem d_O_late_48 : decode b_O_late 48 = .ok (.iload_n 3, 1) := by decide +kernel
theorem d_O_late_49 : decode b_O_late 49 = .ok (.ireturn, 1) := by decide +kernel
theorem d_O_late_50 : decode b_O_late 50 = .ok (.iload_n 2, 1) := by decide +kernel
theorem d_O_late_51 : decode b_O_late 51 = .ok (.iload 4, 2) := by decide +kernel
theorem d_O_late_53 : decode b_O_late 53 = .ok (.ifCond .eq 7, 3) := by decide +kernel
theorem d_O_late_56 : decode b_O_late 56 = .ok (.iconst 1, 1) := by decide +kernel
theorem d_O_late_57 : decode b_O_late 57 = .ok (.goto 4, 3) := by decide +kernel
theorem d_O_late_60 : decode b_O_late 60 = .ok (.iconst 0, 1) := by decide +kernel
theorem d_O_late_61 : decode b_O_late 61 = .ok (.iadd, 1) := by decide +kernel
theorem d_O_late_62 : decode b_O_late 62 = .ok (.istore_n 2, 1) := by decide +kernel
theorem d_O_late_63 : decode b_O_late 63 = .ok (.iinc 3 1, 3) := by decide +kernel
theorem d_O_late_66 : decode b_O_late 66 = .ok (.goto (-62), 3) := by decide +kernel
theorem d_O_late_69 : decode b_O_late 69 = .ok (.iconst (-1), 1) := by decide +kernel
theorem d_O_late_70 : decode b_O_late 70 = .ok (.ireturn, 1) := by decide +kernel
def w_O_late : List Cond := .code y_O_late b_O_late 5 (some .int) :: ([.fieldLink "PartShelvesModel" 60 "PartShelvesModel" "lent" "[Z", .fieldLink "PartShelvesModel" 66 "PartShelvesModel" "lentDay" "[I", .fieldLink "PartShelvesModel" 88 "PartShelvesModel" "today" "I"] ++ u_ws R_O F_O 36)
set_option maxHeartbeats 4000000 in
set_option maxRecDepth 100000 in
theorem c_O_late (l : Launch) (D : va_G) (kC : Nat → ClassId) (ad : Nat → Nat) (td : Nat) (rn : Nat) (pn : Nat) (an : Nat) (jn : Nat) (tn : Nat) (bm : Int32) (fw : Int64) (gp : Nat) (ga : Nat) (bp : Int32) (fc : Int64) (fj : Nat) (rA : Nat → Nat) (rC : Nat → Nat) (ft : Nat → Int32) (kd : Nat → Nat) (aG : Nat → Nat) (sR : Nat → Nat) (sT : Nat → Nat) (wh : Nat → Nat) (dY : Nat → Nat) (pd : Nat → Nat) (cN : Nat → Nat) (mN : Nat → Nat) (sv : Nat → Int32) (nd : Nat → Nat) (wr : Nat → Nat) (tl : Nat → Nat) (lt : Nat → Int32) (lT : Nat → Nat) (lD : Nat → Nat) (gv : Nat → Int32) (gn : Nat → Int64) (od : Nat → Nat) (br : Nat → Nat) (x : Int32) (htd : td ≤ 100000) (hlD : ∀ j, lD j ≤ 100000) : Met l y_O_late w_O_late ({ frames := 0, cells := 0, slots := 0, locals := 0 } : Room) (gPr cls D (tyL kC) [.ref (ad 0), .int x] (fl [(wO kC ad td rn pn an jn tn bm fw gp ga bp fc fj rA rC ft kd aG sR sT wh dY pd cN mN sv nd wr tl lt lT lD gv gn od br)])) (vp_Si (fun r => r = lateM lt lD td x 4 0 0)) 0 0 (fun _ => False) := by
  refine Met.ofW (cc := b_O_late) (maxL := 5) (ret := (some .int)) (by decide) rfl ?_
  intro p e s m args below meth c s₁ B hml hv
  obtain ⟨rfl, hP, hK⟩ := hv
  have hx := B.exec
  have hb := B.bytes
  have hr := B.returns
  have hts := atoms_spec (ws := w_O_late) B.pre
  have hown : s.vm.findClass R_O = some m.cls := findClass_of_methodNamed B.named
  have hlocks := B.notSynchronized
  have hl := lv_entry ([.ref (ad 0), .int x]) (n := 5) (Nat.le_of_ble_eq_true rfl)
  rw [lg_entry_eq]
  generalize (lg_sl ([.ref (ad 0), .int x]) ++ List.replicate (5 - (lg_sl ([.ref (ad 0), .int x])).length) Slot.unset).toArray = ls at hl ⊢
  have hl : lv_has ls 5 [(0, .ref (ad 0)), (1, .int x)] := hl
  refine lv_iconst (v := nI 0) hx hb d_O_late_0 (by decide) ?_
  refine lv_istore_n (lv' := [(2, .int (nI 0)), (0, .ref (ad 0)), (1, .int x)]) hx hb d_O_late_1 rfl hl (by decide) rfl (fun ls hl => ?_)
  refine lv_iconst (v := nI 0) hx hb d_O_late_2 (by decide) ?_
  refine lv_istore_n (lv' := [(3, .int (nI 0)), (2, .int (nI 0)), (0, .ref (ad 0)), (1, .int x)]) hx hb d_O_late_3 rfl hl (by decide) rfl (fun ls hl => ?_)
  have L4 : ∀ (n4 : Nat) (t : Nat) (z : Nat) (f : Nat), f < n4 → t + f = 4 → z ≤ t → lateM lt lD td x f t z = lateM lt lD td x 4 0 0 → ∀ (ls : Array Slot), lv_has ls 5 [(0, .ref (ad 0)), (1, .int x), (2, .int (nI z)), (3, .int (nI t))] → W p l e (headSpec w_O_late ({ frames := 0, cells := 0, slots := 0, locals := 0 } : Room)).room s m ([.ref (ad 0), .int x] : List Value).toArray below meth c s.heap [] 0 0 (MQ below (vp_Si (fun r => r = lateM lt lD td x 4 0 0)) ([.ref (ad 0), .int x] : List Value).toArray s 0 0 (fun _ => False)) (F0 m 4 ls []) := by
    intro n4
    induction n4 with
    | zero =>
      intro t z f hm
      exact absurd hm (Nat.not_lt_zero _)
    | succ n4 ih4 =>
      intro t z f hm hf hz hL ls hl
      refine lv_iload_n hx hb d_O_late_4 rfl (lv_at hl 3 rfl) ?_
      refine lv_iconst (v := nI 4) hx hb d_O_late_5 (by decide) ?_
      refine nv_icmp_ge (tgt := 69) hx hb d_O_late_6 (by decide) (by omega) (by omega) (fun h0 => ?_) (fun h0 => ?_)
      · obtain rfl : f = 0 := by omega
        refine lv_iconst (v := (-1)) hx hb d_O_late_69 (by decide) ?_
        exact W.iret (v := (-1)) hx hb hr (fun t ht hW => ⟨_, rfl, hL, ht⟩) t_nil d_O_late_70
      · obtain ⟨g, rfl⟩ : ∃ g, f = g + 1 := ⟨f - 1, by omega⟩
        refine lv_aload_n hx hb d_O_late_9 rfl (lv_at hl 0 rfl) ?_
        refine fv_get (ci := 7) (v := .ref (ad 17)) (C := R_O) (T := F_O) (N := 36) hx hb hts (by decide +kernel) hown hK hP 0 0 rfl rfl rfl 22 (by decide) (hts (.fieldLink R_O 60 "PartShelvesModel" "lent" "[Z") (by decide +kernel)) (fun _ h9 => h9) rfl d_O_late_10 ?_
        refine lv_iload_n hx hb d_O_late_13 rfl (lv_at hl 3 rfl) ?_
        refine fa_zald hx hb hK hP 0 17 2 rfl rfl rfl (by omega) (by decide) d_O_late_14 ?_
        refine lv_if_eq (tgt := 35) hx hb d_O_late_15 (by decide) (fun h1 => ?_) (fun h1 => ?_)
        · refine lv_iconst (v := nI 0) hx hb d_O_late_35 (by decide) ?_
          refine lv_istore (lv' := [(4, .int (nI 0)), (0, .ref (ad 0)), (1, .int x), (2, .int (nI z)), (3, .int (nI t))]) hx hb d_O_late_36 hl (by decide) rfl (fun ls hl => ?_)
          refine lv_iload hx hb d_O_late_38 (lv_at hl 0 rfl) ?_
          refine nv_if_eq (tgt := 50) hx hb d_O_late_40 (by decide) (by decide) (fun c1 => ?_) (fun c1 => ?_)
          · refine lv_iload_n hx hb d_O_late_50 rfl (lv_at hl 3 rfl) ?_
            refine lv_iload hx hb d_O_late_51 (lv_at hl 0 rfl) ?_
            refine nv_if_eq (tgt := 60) hx hb d_O_late_53 (by decide) (by decide) (fun c2 => ?_) (fun c2 => ?_)
            · refine lv_iconst (v := nI 0) hx hb d_O_late_60 (by decide) ?_
              refine nv_iadd hx hb d_O_late_61 ?_
              refine lv_istore_n (lv' := [(2, .int (nI (z + 0))), (4, .int (nI 0)), (0, .ref (ad 0)), (1, .int x), (3, .int (nI t))]) hx hb d_O_late_62 rfl hl (by decide) rfl (fun ls hl => ?_)
              refine lv_iinc (v := nI (t + 1)) (lv' := [(3, .int (nI (t + 1))), (2, .int (nI (z + 0))), (4, .int (nI 0)), (0, .ref (ad 0)), (1, .int x)]) hx hb d_O_late_63 hl (k := 4) rfl (nI_1 t) (by decide) rfl (fun ls hl => ?_)
              refine lv_goto (tgt := 4) hx hb d_O_late_66 (by decide) ?_
              exact ih4 (t + 1) (z + 0) g (by omega) (by omega) (by omega) (by rw [← hL]; exact (if_neg (fun q => by first | exact q.1 h1 | (have := q.2; omega))).symm) ls (lv_sub hl [3, 4, 1, 0] rfl)
            · exact absurd c2 (by decide)
          · exact absurd c1 (by decide)
        · refine lv_aload_n hx hb d_O_late_18 rfl (lv_at hl 0 rfl) ?_
          refine fv_get (ci := 7) (v := .ref (ad 19)) (C := R_O) (T := F_O) (N := 36) hx hb hts (by decide +kernel) hown hK hP 0 0 rfl rfl rfl 24 (by decide) (hts (.fieldLink R_O 66 "PartShelvesModel" "lentDay" "[I") (by decide +kernel)) (fun _ h9 => h9) rfl d_O_late_19 ?_
          refine lv_iload_n hx hb d_O_late_22 rfl (lv_at hl 3 rfl) ?_
          refine fa_ialdN hx hb hK hP 0 19 0 rfl rfl rfl (by omega) (by decide) d_O_late_23 ?_
          refine lv_aload_n hx hb d_O_late_24 rfl (lv_at hl 0 rfl) ?_
          refine fv_get (ci := 7) (v := .int (nI td)) (C := R_O) (T := F_O) (N := 36) hx hb hts (by decide +kernel) hown hK hP 0 0 rfl rfl rfl 0 (by decide) (hts (.fieldLink R_O 88 "PartShelvesModel" "today" "I") (by decide +kernel)) (fun _ h9 => h9) rfl d_O_late_25 ?_
          refine nv_icmp_ge (tgt := 35) hx hb d_O_late_28 (by decide) (by have := hlD t; omega) (by omega) (fun h2 => ?_) (fun h2 => ?_)
          · refine lv_iconst (v := nI 0) hx hb d_O_late_35 (by decide) ?_
            refine lv_istore (lv' := [(4, .int (nI 0)), (0, .ref (ad 0)), (1, .int x), (2, .int (nI z)), (3, .int (nI t))]) hx hb d_O_late_36 hl (by decide) rfl (fun ls hl => ?_)
            refine lv_iload hx hb d_O_late_38 (lv_at hl 0 rfl) ?_
            refine nv_if_eq (tgt := 50) hx hb d_O_late_40 (by decide) (by decide) (fun c3 => ?_) (fun c3 => ?_)
            · refine lv_iload_n hx hb d_O_late_50 rfl (lv_at hl 3 rfl) ?_
              refine lv_iload hx hb d_O_late_51 (lv_at hl 0 rfl) ?_
              refine nv_if_eq (tgt := 60) hx hb d_O_late_53 (by decide) (by decide) (fun c4 => ?_) (fun c4 => ?_)
              · refine lv_iconst (v := nI 0) hx hb d_O_late_60 (by decide) ?_
                refine nv_iadd hx hb d_O_late_61 ?_
                refine lv_istore_n (lv' := [(2, .int (nI (z + 0))), (4, .int (nI 0)), (0, .ref (ad 0)), (1, .int x), (3, .int (nI t))]) hx hb d_O_late_62 rfl hl (by decide) rfl (fun ls hl => ?_)
                refine lv_iinc (v := nI (t + 1)) (lv' := [(3, .int (nI (t + 1))), (2, .int (nI (z + 0))), (4, .int (nI 0)), (0, .ref (ad 0)), (1, .int x)]) hx hb d_O_late_63 hl (k := 4) rfl (nI_1 t) (by decide) rfl (fun ls hl => ?_)
                refine lv_goto (tgt := 4) hx hb d_O_late_66 (by decide) ?_
                exact ih4 (t + 1) (z + 0) g (by omega) (by omega) (by omega) (by rw [← hL]; exact (if_neg (fun q => by first | exact q.1 h1 | (have := q.2; omega))).symm) ls (lv_sub hl [3, 4, 1, 0] rfl)
              · exact absurd c4 (by decide)
            · exact absurd c3 (by decide)
          · refine lv_iconst (v := nI 1) hx hb d_O_late_31 (by decide) ?_
            refine lv_goto (tgt := 36) hx hb d_O_late_32 (by decide) ?_
            refine lv_istore (lv' := [(4, .int (nI 1)), (0, .ref (ad 0)), (1, .int x), (2, .int (nI z)), (3, .int (nI t))]) hx hb d_O_late_36 hl (by decide) rfl (fun ls hl => ?_)
            refine lv_iload hx hb d_O_late_38 (lv_at hl 0 rfl) ?_
            refine nv_if_eq (tgt := 50) hx hb d_O_late_40 (by decide) (by decide) (fun c5 => ?_) (fun c5 => ?_)
            · exact absurd c5 (by decide)
            · refine lv_iload_n hx hb d_O_late_43 rfl (lv_at hl 3 rfl) ?_
              refine lv_iload_n hx hb d_O_late_44 rfl (lv_at hl 2 rfl) ?_
              refine lv_icmp_ne (tgt := 50) hx hb d_O_late_45 (by decide) (fun h3 => ?_) (fun h3 => ?_)
              · refine lv_iload_n hx hb d_O_late_50 rfl (lv_at hl 3 rfl) ?_
                refine lv_iload hx hb d_O_late_51 (lv_at hl 0 rfl) ?_
                refine nv_if_eq (tgt := 60) hx hb d_O_late_53 (by decide) (by decide) (fun c6 => ?_) (fun c6 => ?_)
                · exact absurd c6 (by decide)
                · refine lv_iconst (v := nI 1) hx hb d_O_late_56 (by decide) ?_
                  refine lv_goto (tgt := 61) hx hb d_O_late_57 (by decide) ?_
                  refine nv_iadd hx hb d_O_late_61 ?_
                  refine lv_istore_n (lv' := [(2, .int (nI (z + 1))), (4, .int (nI 1)), (0, .ref (ad 0)), (1, .int x), (3, .int (nI t))]) hx hb d_O_late_62 rfl hl (by decide) rfl (fun ls hl => ?_)
                  refine lv_iinc (v := nI (t + 1)) (lv' := [(3, .int (nI (t + 1))), (2, .int (nI (z + 1))), (4, .int (nI 1)), (0, .ref (ad 0)), (1, .int x)]) hx hb d_O_late_63 hl (k := 4) rfl (nI_1 t) (by decide) rfl (fun ls hl => ?_)
                  refine lv_goto (tgt := 4) hx hb d_O_late_66 (by decide) ?_
                  exact ih4 (t + 1) (z + 1) g (by omega) (by omega) (by omega) (by rw [← hL]; simp only [lateM]; rw [if_pos ⟨h1, h2⟩, if_neg h3]) ls (lv_sub hl [3, 4, 1, 0] rfl)
              · refine lv_iload_n hx hb d_O_late_48 rfl (lv_at hl 4 rfl) ?_
                exact W.iret (v := nI t) hx hb hr (fun t ht hW => ⟨_, rfl, by rw [← hL]; simp only [lateM]; rw [if_pos ⟨h1, h2⟩, if_pos h3], ht⟩) t_nil d_O_late_49
  exact L4 _ 0 0 4 (Nat.lt_succ_self _) (rfl) (Nat.le_refl _) (rfl) ls (lv_sub hl [2, 3, 1, 0] rfl)

abbrev b_O_recall : ByteArray := prog_9_method_37_code
def y_O_recall : MethodName := ⟨"PartShelvesModel", "recall", "(IJJ)I"⟩
theorem d_O_recall_0 : decode b_O_recall 0 = .ok (.iload_n 1, 1) := by decide +kernel
theorem d_O_recall_1 : decode b_O_recall 1 = .ok (.invokestatic 102, 3) := by decide +kernel
theorem d_O_recall_4 : decode b_O_recall 4 = .ok (.ifCond .ne 5, 3) := by decide +kernel
theorem d_O_recall_7 : decode b_O_recall 7 = .ok (.iconst (-1), 1) := by decide +kernel
theorem d_O_recall_8 : decode b_O_recall 8 = .ok (.ireturn, 1) := by decide +kernel
theorem d_O_recall_9 : decode b_O_recall 9 = .ok (.aload_n 0, 1) := by decide +kernel
theorem d_O_recall_10 : decode b_O_recall 10 = .ok (.iconst 0, 1) := by decide +kernel
theorem d_O_recall_11 : decode b_O_recall 11 = .ok (.putfield 183, 3) := by decide +kernel
theorem d_O_recall_14 : decode b_O_recall 14 = .ok (.iconst 0, 1) := by decide +kernel
theorem d_O_recall_15 : decode b_O_recall 15 = .ok (.istore 6, 2) := by decide +kernel
theorem d_O_recall_17 : decode b_O_recall 17 = .ok (.iload 6, 2) := by decide +kernel
theorem d_O_recall_19 : decode b_O_recall 19 = .ok (.aload_n 0, 1) := by decide +kernel
theorem d_O_recall_20 : decode b_O_recall 20 = .ok (.getfield 81, 3) := by decide +kernel
theorem d_O_recall_23 : decode b_O_recall 23 = .ok (.if_icmp .ge 99, 3) := by decide +kernel
theorem d_O_recall_26 : decode b_O_recall 26 = .ok (.aload_n 0, 1) := by decide +kernel
theorem d_O_recall_27 : decode b_O_recall 27 = .ok (.getfield 21, 3) := by decide +kernel
theorem d_O_recall_30 : decode b_O_recall 30 = .ok (.iload 6, 2) := by decide +kernel
theorem d_O_recall_32 : decode b_O_recall 32 = .ok (.iaload, 1) := by decide +kernel
theorem d_O_recall_33 : decode b_O_recall 33 = .ok (.iload_n 1, 1) := by decide +kernel
theorem d_O_recall_34 : decode b_O_recall 34 = .ok (.if_icmp .ne 82, 3) := by decide +kernel
theorem d_O_recall_37 : decode b_O_recall 37 = .ok (.aload_n 0, 1) := by decide +kernel
theorem d_O_recall_38 : decode b_O_recall 38 = .ok (.getfield 27, 3) := by decide +kernel
theorem d_O_recall_41 : decode b_O_recall 41 = .ok (.iload 6, 2) := by decide +kernel
theorem d_O_recall_43 : decode b_O_recall 43 = .ok (.laload, 1) := by decide +kernel
theorem d_O_recall_44 : decode b_O_recall 44 = .ok (.lload_n 2, 1) := by decide +kernel
theorem d_O_recall_45 : decode b_O_recall 45 = .ok (.lcmp, 1) := by decide +kernel
theorem d_O_recall_46 : decode b_O_recall 46 = .ok (.ifCond .lt 70, 3) := by decide +kernel
theorem d_O_recall_49 : decode b_O_recall 49 = .ok (.aload_n 0, 1) := by decide +kernel
theorem d_O_recall_50 : decode b_O_recall 50 = .ok (.getfield 27, 3) := by decide +kernel
theorem d_O_recall_53 : decode b_O_recall 53 = .ok (.iload 6, 2) := by decide +kernel
theorem d_O_recall_55 : decode b_O_recall 55 = .ok (.laload, 1) := by decide +kernel
theorem d_O_recall_56 : decode b_O_recall 56 = .ok (.lload 4, 2) := by decide +kernel
theorem d_O_recall_58 : decode b_O_recall 58 = .ok (.lcmp, 1) := by decide +kernel
theorem d_O_recall_59 : decode b_O_recall 59 = .ok (.ifCond .gt 57, 3) := by decide +kernel
theorem d_O_recall_62 : decode b_O_recall 62 = .ok (.aload_n 0, 1) := by decide +kernel
theorem d_O_recall_63 : decode b_O_recall 63 = .ok (.getfield 30, 3) := by decide +kernel
theorem d_O_recall_66 : decode b_O_recall 66 = .ok (.iload 6, 2) := by decide +kernel
theorem d_O_recall_68 : decode b_O_recall 68 = .ok (.iaload, 1) := by decide +kernel
theorem d_O_recall_69 : decode b_O_recall 69 = .ok (.iconst 2, 1) := by decide +kernel
theorem d_O_recall_70 : decode b_O_recall 70 = .ok (.if_icmp .ne 38, 3) := by decide +kernel
theorem d_O_recall_73 : decode b_O_recall 73 = .ok (.aload_n 0, 1) := by decide +kernel
theorem d_O_recall_74 : decode b_O_recall 74 = .ok (.getfield 57, 3) := by decide +kernel
theorem d_O_recall_77 : decode b_O_recall 77 = .ok (.aload_n 0, 1) := by decide +kernel
theorem d_O_recall_78 : decode b_O_recall 78 = .ok (.getfield 183, 3) := by decide +kernel
theorem d_O_recall_81 : decode b_O_recall 81 = .ok (.bipush 10, 2) := by decide +kernel
theorem d_O_recall_83 : decode b_O_recall 83 = .ok (.iload 6, 2) := by decide +kernel
theorem d_O_recall_85 : decode b_O_recall 85 = .ok (.imul, 1) := by decide +kernel
theorem d_O_recall_86 : decode b_O_recall 86 = .ok (.aload_n 0, 1) := by decide +kernel
theorem d_O_recall_87 : decode b_O_recall 87 = .ok (.getfield 33, 3) := by decide +kernel
theorem d_O_recall_90 : decode b_O_recall 90 = .ok (.iload 6, 2) := by decide +kernel
theorem d_O_recall_92 : decode b_O_recall 92 = .ok (.iaload, 1) := by decide +kernel
theorem d_O_recall_93 : decode b_O_recall 93 = .ok (.iadd, 1) := by decide +kernel
theorem d_O_recall_94 : decode b_O_recall 94 = .ok (.iastore, 1) := by decide +kernel
theorem d_O_recall_95 : decode b_O_recall 95 = .ok (.aload_n 0, 1) := by decide +kernel
theorem d_O_recall_96 : decode b_O_recall 96 = .ok (.dup, 1) := by decide +kernel
theorem d_O_recall_97 : decode b_O_recall 97 = .ok (.getfield 183, 3) := by decide +kernel
theorem d_O_recall_100 : decode b_O_recall 100 = .ok (.iconst 1, 1) := by decide +kernel
theorem d_O_recall_101 : decode b_O_recall 101 = .ok (.iadd, 1) := by decide +kernel
theorem d_O_recall_102 : decode b_O_recall 102 = .ok (.putfield 183, 3) := by decide +kernel
theorem d_O_recall_105 : decode b_O_recall 105 = .ok (.goto 11, 3) := by decide +kernel
theorem d_O_recall_108 : decode b_O_recall 108 = .ok (.aload_n 0, 1) := by decide +kernel
theorem d_O_recall_109 : decode b_O_recall 109 = .ok (.getfield 30, 3) := by decide +kernel
theorem d_O_recall_112 : decode b_O_recall 112 = .ok (.iload 6, 2) := by decide +kernel
theorem d_O_recall_114 : decode b_O_recall 114 = .ok (.iconst 3, 1) := by decide +kernel
theorem d_O_recall_115 : decode b_O_recall 115 = .ok (.iastore, 1) := by decide +kernel
theorem d_O_recall_116 : decode b_O_recall 116 = .ok (.iinc 6 1, 3) := by decide +kernel
theorem d_O_recall_119 : decode b_O_recall 119 = .ok (.goto (-102), 3) := by decide +kernel
theorem d_O_recall_122 : decode b_O_recall 122 = .ok (.aload_n 0, 1) := by decide +kernel
theorem d_O_recall_123 : decode b_O_recall 123 = .ok (.getfield 183, 3) := by decide +kernel
theorem d_O_recall_126 : decode b_O_recall 126 = .ok (.ireturn, 1) := by decide +kernel
def w_O_recall : List Cond := .code y_O_recall b_O_recall 7 (some .int) :: ([.methodLink "PartShelvesModel" 102 ⟨"PartShelvesModel", "isKind", "(I)Z"⟩, .static ⟨"PartShelvesModel", "isKind", "(I)Z"⟩, .initialized "PartShelvesModel", .code ⟨"PartShelvesModel", "isKind", "(I)Z"⟩ prog_9_method_4_code 1 (some .boolean), .fieldLink "PartShelvesModel" 183 "PartShelvesModel" "tellCount" "I", .fieldLink "PartShelvesModel" 81 "PartShelvesModel" "parts" "I", .fieldLink "PartShelvesModel" 21 "PartShelvesModel" "kinds" "[I", .fieldLink "PartShelvesModel" 27 "PartShelvesModel" "serials" "[J", .fieldLink "PartShelvesModel" 30 "PartShelvesModel" "states" "[I", .fieldLink "PartShelvesModel" 57 "PartShelvesModel" "tells" "[I", .fieldLink "PartShelvesModel" 33 "PartShelvesModel" "whose" "[I"] ++ u_ws R_O F_O 36)
set_option maxRecDepth 20000 in
theorem g_O_recall_isKind : GoodIn w_O_recall (wsS R_O 102 y_O_isKind w_O_isKind) := goodIn_p _ [4] rfl (by decide +kernel)
set_option maxHeartbeats 4000000 in
set_option maxRecDepth 100000 in
theorem c_O_recall (l : Launch) (D : va_G) (kC : Nat → ClassId) (ad : Nat → Nat) (td : Nat) (rn : Nat) (pn : Nat) (an : Nat) (jn : Nat) (tn : Nat) (bm : Int32) (fw : Int64) (gp : Nat) (ga : Nat) (bp : Int32) (fc : Int64) (fj : Nat) (rA : Nat → Nat) (rC : Nat → Nat) (ft : Nat → Int32) (kd : Nat → Nat) (aG : Nat → Nat) (sR : Nat → Nat) (sT : Nat → Nat) (wh : Nat → Nat) (dY : Nat → Nat) (pd : Nat → Nat) (cN : Nat → Nat) (mN : Nat → Nat) (sv : Nat → Int32) (nd : Nat → Nat) (wr : Nat → Nat) (tl : Nat → Nat) (lt : Nat → Int32) (lT : Nat → Nat) (lD : Nat → Nat) (gv : Nat → Int32) (gn : Nat → Int64) (od : Nat → Nat) (br : Nat → Nat) (x : Int32) (v : Int64) (u : Int64) (sz : Nat) (hpn : pn ≤ 8) (hkd : ∀ j, kd j < 6) (hsT : ∀ j, sT j ≤ 3) : Met l y_O_recall w_O_recall ({ frames := 1, cells := 0, slots := 0, locals := 20 } : Room) (gPre cls D (tyL kC) [.ref (ad 0), .int x, .long v, .long u] (fl [(wO kC ad td rn pn an jn tn bm fw gp ga bp fc fj rA rC ft kd aG sR sT wh dY pd cN mN sv nd wr tl lt lT lD gv gn od br)]) sz) (gQi cls D (tyL kC) (fl [(wO kC ad td rn pn an jn tn bm fw gp ga bp fc fj rA rC ft kd aG sR sT wh dY pd cN mN sv nd wr tl lt lT lD gv gn od br)]) sz (if inR x 6 then nI (rcT kd sR sT (nOf x) v u pn) else -1) (fl [(wO kC ad td rn pn an jn (if inR x 6 then rcT kd sR sT (nOf x) v u pn else tn) bm fw gp ga bp fc fj rA rC ft kd aG sR (if inR x 6 then rcS kd sR sT (nOf x) v u pn else sT) wh dY pd cN mN sv nd wr (if inR x 6 then rcL kd sR sT wh tl (nOf x) v u pn else tl) lt lT lD gv gn od br)])) 0 0 (va_A (fl [(wO kC ad td rn pn an jn tn bm fw gp ga bp fc fj rA rC ft kd aG sR sT wh dY pd cN mN sv nd wr tl lt lT lD gv gn od br)]) sz) := by
  refine Met.ofW (cc := b_O_recall) (maxL := 7) (ret := (some .int)) (by decide) rfl ?_
  intro p e s m args below meth c s₁ B hml hv
  obtain ⟨rfl, hsz, hP, hK, hD0⟩ := hv
  have hx := B.exec
  have hb := B.bytes
  have hr := B.returns
  have hts := atoms_spec (ws := w_O_recall) B.pre
  have hown : s.vm.findClass R_O = some m.cls := findClass_of_methodNamed B.named
  have hlocks := B.notSynchronized
  subst hsz
  obtain ⟨A, hAe⟩ : ∃ A : Nat → Prop, A = va_A (fl [(wO kC ad td rn pn an jn tn bm fw gp ga bp fc fj rA rC ft kd aG sR sT wh dY pd cN mN sv nd wr tl lt lT lD gv gn od br)]) s.heap.size := ⟨_, rfl⟩
  have hD : va_D A (fl [(wO kC ad td rn pn an jn tn bm fw gp ga bp fc fj rA rC ft kd aG sR sT wh dY pd cN mN sv nd wr tl lt lT lD gv gn od br)]) := by rw [hAe]; exact hD0.self
  have hA : ∀ q : Nat, s.heap.size ≤ q → A q := fun q h => by rw [hAe]; exact Or.inr h
  have hS : va_S A s.heap s.heap [] := va_S.rf
  have hl := lv_entry ([.ref (ad 0), .int x, .long v, .long u]) (n := 7) (Nat.le_of_ble_eq_true rfl)
  rw [lg_entry_eq]
  generalize (lg_sl ([.ref (ad 0), .int x, .long v, .long u]) ++ List.replicate (7 - (lg_sl ([.ref (ad 0), .int x, .long v, .long u])).length) Slot.unset).toArray = ls at hl ⊢
  have hl : lv_has ls 7 [(0, .ref (ad 0)), (1, .int x), (2, .long v), (4, .long u)] := hl
  refine lv_iload_n hx hb d_O_recall_0 rfl (lv_at hl 1 rfl) ?_
  refine r_calli (W.runS (As := [.int x]) (rest := []) ⟨hx, hb, hml, hown, hts⟩ (c_O_isKind l x) (cwS 1 hts g_O_recall_isKind rfl rfl rfl (by decide +kernel) ⟨Nat.le_of_ble_eq_true rfl, Nat.le_of_ble_eq_true rfl⟩) p0_preS rfl rfl hl.1 rfl (lv_room (Nat.le_of_ble_eq_true rfl)) d_O_recall_1 ⟨Nat.le_of_ble_eq_true rfl, Nat.le_of_ble_eq_true rfl⟩) ?_
  refine lv_if_ne (tgt := 9) hx hb d_O_recall_4 (by decide) (fun h0 => ?_) (fun h0 => ?_)
  · have hC := bI_n0.mp h0
    obtain ⟨j, hj, rfl⟩ := inR_n (by decide) hC
    refine lv_aload_n hx hb d_O_recall_9 rfl (lv_at hl 0 rfl) ?_
    refine lv_iconst (v := nI 0) hx hb d_O_recall_10 (by decide) ?_
    refine fv_put (ci := 7) (v := .int (nI 0)) (ty := (.int)) (C := R_O) (T := F_O) (N := 36) hx hb hts (by decide +kernel) t_O t_O_ok n_O hown hK hP hD hS 0 0 rfl rfl rfl 20 (by decide) (hts (.fieldLink R_O 183 "PartShelvesModel" "tellCount" "I") (by decide +kernel)) (fun _ h9 => h9) rfl (by decide +kernel) (rfl) (rfl) (Nat.le_of_ble_eq_true rfl) d_O_recall_11 (fun H locs hP hD hS => ?_)
    have hP : va_P D cls (fl [(wO kC ad td rn pn an jn 0 bm fw gp ga bp fc fj rA rC ft kd aG sR sT wh dY pd cN mN sv nd wr tl lt lT lD gv gn od br)]) H := hP
    have hD : va_D A (fl [(wO kC ad td rn pn an jn 0 bm fw gp ga bp fc fj rA rC ft kd aG sR sT wh dY pd cN mN sv nd wr tl lt lT lD gv gn od br)]) := hD
    refine lv_iconst (v := nI 0) hx hb d_O_recall_14 (by decide) ?_
    refine lv_istore (lv' := [(6, .int (nI 0)), (0, .ref (ad 0)), (1, .int (nI j)), (2, .long v), (4, .long u)]) hx hb d_O_recall_15 hl (by decide) rfl (fun ls hl => ?_)
    have L17 : ∀ (n17 : Nat) (i : Nat), pn - i < n17 → i ≤ pn → ∀ (H : Heap) (locs : List Loc), va_P D cls (fl [(wO kC ad td rn pn an jn (rcT kd sR sT j v u i) bm fw gp ga bp fc fj rA rC ft kd aG sR (rcS kd sR sT j v u i) wh dY pd cN mN sv nd wr (rcL kd sR sT wh tl j v u i) lt lT lD gv gn od br)]) H → va_D A (fl [(wO kC ad td rn pn an jn (rcT kd sR sT j v u i) bm fw gp ga bp fc fj rA rC ft kd aG sR (rcS kd sR sT j v u i) wh dY pd cN mN sv nd wr (rcL kd sR sT wh tl j v u i) lt lT lD gv gn od br)]) → va_S A s.heap H locs → ∀ (ls : Array Slot), lv_has ls 7 [(0, .ref (ad 0)), (1, .int (nI j)), (2, .long v), (4, .long u), (6, .int (nI i))] → W p l e (headSpec w_O_recall ({ frames := 1, cells := 0, slots := 0, locals := 20 } : Room)).room s m ([.ref (ad 0), .int (nI j), .long v, .long u] : List Value).toArray below meth c H locs 0 0 (MQ below (gQi cls D (tyL kC) (fl [(wO kC ad td rn pn an jn tn bm fw gp ga bp fc fj rA rC ft kd aG sR sT wh dY pd cN mN sv nd wr tl lt lT lD gv gn od br)]) s.heap.size (if inR (nI j) 6 then nI (rcT kd sR sT (nOf (nI j)) v u pn) else -1) (fl [(wO kC ad td rn pn an jn (if inR (nI j) 6 then rcT kd sR sT (nOf (nI j)) v u pn else tn) bm fw gp ga bp fc fj rA rC ft kd aG sR (if inR (nI j) 6 then rcS kd sR sT (nOf (nI j)) v u pn else sT) wh dY pd cN mN sv nd wr (if inR (nI j) 6 then rcL kd sR sT wh tl (nOf (nI j)) v u pn else tl) lt lT lD gv gn od br)])) ([.ref (ad 0), .int (nI j), .long v, .long u] : List Value).toArray s 0 0 (va_A (fl [(wO kC ad td rn pn an jn tn bm fw gp ga bp fc fj rA rC ft kd aG sR sT wh dY pd cN mN sv nd wr tl lt lT lD gv gn od br)]) s.heap.size)) (F0 m 17 ls []) := by
      intro n17
      induction n17 with
      | zero =>
        intro i hm
        exact absurd hm (Nat.not_lt_zero _)
      | succ n17 ih17 =>
        intro i hm hip H locs hP hD hS ls hl
        refine lv_iload hx hb d_O_recall_17 (lv_at hl 4 rfl) ?_
        refine lv_aload_n hx hb d_O_recall_19 rfl (lv_at hl 0 rfl) ?_
        refine fv_get (ci := 7) (v := .int (nI pn)) (C := R_O) (T := F_O) (N := 36) hx hb hts (by decide +kernel) hown hK hP 0 0 rfl rfl rfl 5 (by decide) (hts (.fieldLink R_O 81 "PartShelvesModel" "parts" "I") (by decide +kernel)) (fun _ h9 => h9) rfl d_O_recall_20 ?_
        refine nv_icmp_ge (tgt := 122) hx hb d_O_recall_23 (by decide) (by omega) (by omega) (fun hi => ?_) (fun hi => ?_)
        · obtain rfl : pn = i := by omega
          refine lv_aload_n hx hb d_O_recall_122 rfl (lv_at hl 0 rfl) ?_
          refine fv_get (ci := 7) (v := .int (nI (rcT kd sR sT j v u pn))) (C := R_O) (T := F_O) (N := 36) hx hb hts (by decide +kernel) hown hK hP 0 0 rfl rfl rfl 20 (by decide) (hts (.fieldLink R_O 183 "PartShelvesModel" "tellCount" "I") (by decide +kernel)) (fun _ h9 => h9) rfl d_O_recall_123 ?_
          have ew1 : (rcT kd sR sT j v u pn) = (if inR (nI j) 6 then rcT kd sR sT (nOf (nI j)) v u pn else tn) := by rw [if_pos hC, nOf_nI (by omega)]
          have hP : va_P D cls (fl [(wO kC ad td rn pn an jn (if inR (nI j) 6 then rcT kd sR sT (nOf (nI j)) v u pn else tn) bm fw gp ga bp fc fj rA rC ft kd aG sR (rcS kd sR sT j v u pn) wh dY pd cN mN sv nd wr (rcL kd sR sT wh tl j v u pn) lt lT lD gv gn od br)]) H := by rw [← ew1]; exact hP
          have hD : va_D A (fl [(wO kC ad td rn pn an jn (if inR (nI j) 6 then rcT kd sR sT (nOf (nI j)) v u pn else tn) bm fw gp ga bp fc fj rA rC ft kd aG sR (rcS kd sR sT j v u pn) wh dY pd cN mN sv nd wr (rcL kd sR sT wh tl j v u pn) lt lT lD gv gn od br)]) := by rw [← ew1]; exact hD
          have ew2 : (rcL kd sR sT wh tl j v u pn) = (if inR (nI j) 6 then rcL kd sR sT wh tl (nOf (nI j)) v u pn else tl) := by rw [if_pos hC, nOf_nI (by omega)]
          have hP : va_P D cls (fl [(wO kC ad td rn pn an jn (if inR (nI j) 6 then rcT kd sR sT (nOf (nI j)) v u pn else tn) bm fw gp ga bp fc fj rA rC ft kd aG sR (rcS kd sR sT j v u pn) wh dY pd cN mN sv nd wr (if inR (nI j) 6 then rcL kd sR sT wh tl (nOf (nI j)) v u pn else tl) lt lT lD gv gn od br)]) H := by rw [← ew2]; exact hP
          have hD : va_D A (fl [(wO kC ad td rn pn an jn (if inR (nI j) 6 then rcT kd sR sT (nOf (nI j)) v u pn else tn) bm fw gp ga bp fc fj rA rC ft kd aG sR (rcS kd sR sT j v u pn) wh dY pd cN mN sv nd wr (if inR (nI j) 6 then rcL kd sR sT wh tl (nOf (nI j)) v u pn else tl) lt lT lD gv gn od br)]) := by rw [← ew2]; exact hD
          have ew3 : (rcS kd sR sT j v u pn) = (if inR (nI j) 6 then rcS kd sR sT (nOf (nI j)) v u pn else sT) := by rw [if_pos hC, nOf_nI (by omega)]
          have hP : va_P D cls (fl [(wO kC ad td rn pn an jn (if inR (nI j) 6 then rcT kd sR sT (nOf (nI j)) v u pn else tn) bm fw gp ga bp fc fj rA rC ft kd aG sR (if inR (nI j) 6 then rcS kd sR sT (nOf (nI j)) v u pn else sT) wh dY pd cN mN sv nd wr (if inR (nI j) 6 then rcL kd sR sT wh tl (nOf (nI j)) v u pn else tl) lt lT lD gv gn od br)]) H := by rw [← ew3]; exact hP
          have hD : va_D A (fl [(wO kC ad td rn pn an jn (if inR (nI j) 6 then rcT kd sR sT (nOf (nI j)) v u pn else tn) bm fw gp ga bp fc fj rA rC ft kd aG sR (if inR (nI j) 6 then rcS kd sR sT (nOf (nI j)) v u pn else sT) wh dY pd cN mN sv nd wr (if inR (nI j) 6 then rcL kd sR sT wh tl (nOf (nI j)) v u pn else tl) lt lT lD gv gn od br)]) := by rw [← ew3]; exact hD
          exact W.iret (v := nI (rcT kd sR sT j v u pn)) hx hb hr (fun t ht hW => by subst hAe; exact ⟨⟨(nI (rcT kd sR sT j v u pn)), (), rfl, by rw [if_pos hC, nOf_nI (by omega)], by rw [ht]; exact hP, va_K.moved hW.alike hK, hD⟩, hS.F ht⟩) (by subst hAe; exact hS.2.2) d_O_recall_126
        · have hrt := rcT_le kd sR sT j v u i
          refine lv_aload_n hx hb d_O_recall_26 rfl (lv_at hl 0 rfl) ?_
          refine fv_get (ci := 7) (v := .ref (ad 4)) (C := R_O) (T := F_O) (N := 36) hx hb hts (by decide +kernel) hown hK hP 0 0 rfl rfl rfl 6 (by decide) (hts (.fieldLink R_O 21 "PartShelvesModel" "kinds" "[I") (by decide +kernel)) (fun _ h9 => h9) rfl d_O_recall_27 ?_
          refine lv_iload hx hb d_O_recall_30 (lv_at hl 4 rfl) ?_
          refine fa_ialdN hx hb hK hP 0 4 0 rfl rfl rfl (by omega) (by decide) d_O_recall_32 ?_
          refine lv_iload_n hx hb d_O_recall_33 rfl (lv_at hl 1 rfl) ?_
          refine nv_icmp_ne (tgt := 116) hx hb d_O_recall_34 (by decide) (by have := hkd i; omega) (by omega) (fun h1 => ?_) (fun h1 => ?_)
          · refine lv_iinc (v := nI (i + 1)) (lv' := [(6, .int (nI (i + 1))), (0, .ref (ad 0)), (1, .int (nI j)), (2, .long v), (4, .long u)]) hx hb d_O_recall_116 hl (k := 4) rfl (nI_1 i) (by decide) rfl (fun ls hl => ?_)
            refine lv_goto (tgt := 17) hx hb d_O_recall_119 (by decide) ?_
            have hm : ¬ rcC kd sR j v u i := fun q => by first | exact absurd h3 (Int64.not_lt.mpr q.2.2) | exact absurd h2 (Int64.not_lt.mpr q.2.1) | exact h1 q.1
            have ew4 : (rcL kd sR sT wh tl j v u i) = (rcL kd sR sT wh tl j v u (i + 1)) := (if_neg (fun q => hm q.1)).symm
            have hP : va_P D cls (fl [(wO kC ad td rn pn an jn (rcT kd sR sT j v u i) bm fw gp ga bp fc fj rA rC ft kd aG sR (rcS kd sR sT j v u i) wh dY pd cN mN sv nd wr (rcL kd sR sT wh tl j v u (i + 1)) lt lT lD gv gn od br)]) H := by rw [← ew4]; exact hP
            have hD : va_D A (fl [(wO kC ad td rn pn an jn (rcT kd sR sT j v u i) bm fw gp ga bp fc fj rA rC ft kd aG sR (rcS kd sR sT j v u i) wh dY pd cN mN sv nd wr (rcL kd sR sT wh tl j v u (i + 1)) lt lT lD gv gn od br)]) := by rw [← ew4]; exact hD
            have ew5 : (rcT kd sR sT j v u i) = (rcT kd sR sT j v u (i + 1)) := (if_neg (fun q => hm q.1)).symm
            have hP : va_P D cls (fl [(wO kC ad td rn pn an jn (rcT kd sR sT j v u (i + 1)) bm fw gp ga bp fc fj rA rC ft kd aG sR (rcS kd sR sT j v u i) wh dY pd cN mN sv nd wr (rcL kd sR sT wh tl j v u (i + 1)) lt lT lD gv gn od br)]) H := by rw [← ew5]; exact hP
            have hD : va_D A (fl [(wO kC ad td rn pn an jn (rcT kd sR sT j v u (i + 1)) bm fw gp ga bp fc fj rA rC ft kd aG sR (rcS kd sR sT j v u i) wh dY pd cN mN sv nd wr (rcL kd sR sT wh tl j v u (i + 1)) lt lT lD gv gn od br)]) := by rw [← ew5]; exact hD
            have ew6 : (rcS kd sR sT j v u i) = (rcS kd sR sT j v u (i + 1)) := (if_neg (fun q => hm q.1)).symm
            have hP : va_P D cls (fl [(wO kC ad td rn pn an jn (rcT kd sR sT j v u (i + 1)) bm fw gp ga bp fc fj rA rC ft kd aG sR (rcS kd sR sT j v u (i + 1)) wh dY pd cN mN sv nd wr (rcL kd sR sT wh tl j v u (i + 1)) lt lT lD gv gn od br)]) H := by rw [← ew6]; exact hP
            have hD : va_D A (fl [(wO kC ad td rn pn an jn (rcT kd sR sT j v u (i + 1)) bm fw gp ga bp fc fj rA rC ft kd aG sR (rcS kd sR sT j v u (i + 1)) wh dY pd cN mN sv nd wr (rcL kd sR sT wh tl j v u (i + 1)) lt lT lD gv gn od br)]) := by rw [← ew6]; exact hD
            exact ih17 (i + 1) (by omega) (hi) _ _ hP hD hS ls (lv_sub hl [1, 2, 3, 4, 0] rfl)
          · refine lv_aload_n hx hb d_O_recall_37 rfl (lv_at hl 0 rfl) ?_
            refine fv_get (ci := 7) (v := .ref (ad 6)) (C := R_O) (T := F_O) (N := 36) hx hb hts (by decide +kernel) hown hK hP 0 0 rfl rfl rfl 8 (by decide) (hts (.fieldLink R_O 27 "PartShelvesModel" "serials" "[J") (by decide +kernel)) (fun _ h9 => h9) rfl d_O_recall_38 ?_
            refine lv_iload hx hb d_O_recall_41 (lv_at hl 4 rfl) ?_
            refine fa_laldN hx hb hK hP 0 6 1 rfl rfl rfl (by omega) (by decide) d_O_recall_43 ?_
            refine lv_lload_n hx hb d_O_recall_44 rfl (lv_at hl 2 rfl) ?_
            refine lc_lt (tgt := 116) hx hb d_O_recall_45 d_O_recall_46 (by decide) (fun h2 => ?_) (fun h2 => ?_)
            · refine lv_iinc (v := nI (i + 1)) (lv' := [(6, .int (nI (i + 1))), (0, .ref (ad 0)), (1, .int (nI j)), (2, .long v), (4, .long u)]) hx hb d_O_recall_116 hl (k := 4) rfl (nI_1 i) (by decide) rfl (fun ls hl => ?_)
              refine lv_goto (tgt := 17) hx hb d_O_recall_119 (by decide) ?_
              have hm : ¬ rcC kd sR j v u i := fun q => by first | exact absurd h3 (Int64.not_lt.mpr q.2.2) | exact absurd h2 (Int64.not_lt.mpr q.2.1) | exact h1 q.1
              have ew7 : (rcL kd sR sT wh tl j v u i) = (rcL kd sR sT wh tl j v u (i + 1)) := (if_neg (fun q => hm q.1)).symm
              have hP : va_P D cls (fl [(wO kC ad td rn pn an jn (rcT kd sR sT j v u i) bm fw gp ga bp fc fj rA rC ft kd aG sR (rcS kd sR sT j v u i) wh dY pd cN mN sv nd wr (rcL kd sR sT wh tl j v u (i + 1)) lt lT lD gv gn od br)]) H := by rw [← ew7]; exact hP
              have hD : va_D A (fl [(wO kC ad td rn pn an jn (rcT kd sR sT j v u i) bm fw gp ga bp fc fj rA rC ft kd aG sR (rcS kd sR sT j v u i) wh dY pd cN mN sv nd wr (rcL kd sR sT wh tl j v u (i + 1)) lt lT lD gv gn od br)]) := by rw [← ew7]; exact hD
              have ew8 : (rcT kd sR sT j v u i) = (rcT kd sR sT j v u (i + 1)) := (if_neg (fun q => hm q.1)).symm
              have hP : va_P D cls (fl [(wO kC ad td rn pn an jn (rcT kd sR sT j v u (i + 1)) bm fw gp ga bp fc fj rA rC ft kd aG sR (rcS kd sR sT j v u i) wh dY pd cN mN sv nd wr (rcL kd sR sT wh tl j v u (i + 1)) lt lT lD gv gn od br)]) H := by rw [← ew8]; exact hP
              have hD : va_D A (fl [(wO kC ad td rn pn an jn (rcT kd sR sT j v u (i + 1)) bm fw gp ga bp fc fj rA rC ft kd aG sR (rcS kd sR sT j v u i) wh dY pd cN mN sv nd wr (rcL kd sR sT wh tl j v u (i + 1)) lt lT lD gv gn od br)]) := by rw [← ew8]; exact hD
              have ew9 : (rcS kd sR sT j v u i) = (rcS kd sR sT j v u (i + 1)) := (if_neg (fun q => hm q.1)).symm
              have hP : va_P D cls (fl [(wO kC ad td rn pn an jn (rcT kd sR sT j v u (i + 1)) bm fw gp ga bp fc fj rA rC ft kd aG sR (rcS kd sR sT j v u (i + 1)) wh dY pd cN mN sv nd wr (rcL kd sR sT wh tl j v u (i + 1)) lt lT lD gv gn od br)]) H := by rw [← ew9]; exact hP
              have hD : va_D A (fl [(wO kC ad td rn pn an jn (rcT kd sR sT j v u (i + 1)) bm fw gp ga bp fc fj rA rC ft kd aG sR (rcS kd sR sT j v u (i + 1)) wh dY pd cN mN sv nd wr (rcL kd sR sT wh tl j v u (i + 1)) lt lT lD gv gn od br)]) := by rw [← ew9]; exact hD
              exact ih17 (i + 1) (by omega) (hi) _ _ hP hD hS ls (lv_sub hl [1, 2, 3, 4, 0] rfl)
            · refine lv_aload_n hx hb d_O_recall_49 rfl (lv_at hl 0 rfl) ?_
              refine fv_get (ci := 7) (v := .ref (ad 6)) (C := R_O) (T := F_O) (N := 36) hx hb hts (by decide +kernel) hown hK hP 0 0 rfl rfl rfl 8 (by decide) (hts (.fieldLink R_O 27 "PartShelvesModel" "serials" "[J") (by decide +kernel)) (fun _ h9 => h9) rfl d_O_recall_50 ?_
              refine lv_iload hx hb d_O_recall_53 (lv_at hl 4 rfl) ?_
              refine fa_laldN hx hb hK hP 0 6 1 rfl rfl rfl (by omega) (by decide) d_O_recall_55 ?_
              refine lv_lload hx hb d_O_recall_56 (lv_at hl 3 rfl) ?_
              refine lc_gt (tgt := 116) hx hb d_O_recall_58 d_O_recall_59 (by decide) (fun h3 => ?_) (fun h3 => ?_)
              · refine lv_iinc (v := nI (i + 1)) (lv' := [(6, .int (nI (i + 1))), (0, .ref (ad 0)), (1, .int (nI j)), (2, .long v), (4, .long u)]) hx hb d_O_recall_116 hl (k := 4) rfl (nI_1 i) (by decide) rfl (fun ls hl => ?_)
                refine lv_goto (tgt := 17) hx hb d_O_recall_119 (by decide) ?_
                have hm : ¬ rcC kd sR j v u i := fun q => by first | exact absurd h3 (Int64.not_lt.mpr q.2.2) | exact absurd h2 (Int64.not_lt.mpr q.2.1) | exact h1 q.1
                have ew10 : (rcL kd sR sT wh tl j v u i) = (rcL kd sR sT wh tl j v u (i + 1)) := (if_neg (fun q => hm q.1)).symm
                have hP : va_P D cls (fl [(wO kC ad td rn pn an jn (rcT kd sR sT j v u i) bm fw gp ga bp fc fj rA rC ft kd aG sR (rcS kd sR sT j v u i) wh dY pd cN mN sv nd wr (rcL kd sR sT wh tl j v u (i + 1)) lt lT lD gv gn od br)]) H := by rw [← ew10]; exact hP
                have hD : va_D A (fl [(wO kC ad td rn pn an jn (rcT kd sR sT j v u i) bm fw gp ga bp fc fj rA rC ft kd aG sR (rcS kd sR sT j v u i) wh dY pd cN mN sv nd wr (rcL kd sR sT wh tl j v u (i + 1)) lt lT lD gv gn od br)]) := by rw [← ew10]; exact hD
                have ew11 : (rcT kd sR sT j v u i) = (rcT kd sR sT j v u (i + 1)) := (if_neg (fun q => hm q.1)).symm
                have hP : va_P D cls (fl [(wO kC ad td rn pn an jn (rcT kd sR sT j v u (i + 1)) bm fw gp ga bp fc fj rA rC ft kd aG sR (rcS kd sR sT j v u i) wh dY pd cN mN sv nd wr (rcL kd sR sT wh tl j v u (i + 1)) lt lT lD gv gn od br)]) H := by rw [← ew11]; exact hP
                have hD : va_D A (fl [(wO kC ad td rn pn an jn (rcT kd sR sT j v u (i + 1)) bm fw gp ga bp fc fj rA rC ft kd aG sR (rcS kd sR sT j v u i) wh dY pd cN mN sv nd wr (rcL kd sR sT wh tl j v u (i + 1)) lt lT lD gv gn od br)]) := by rw [← ew11]; exact hD
                have ew12 : (rcS kd sR sT j v u i) = (rcS kd sR sT j v u (i + 1)) := (if_neg (fun q => hm q.1)).symm
                have hP : va_P D cls (fl [(wO kC ad td rn pn an jn (rcT kd sR sT j v u (i + 1)) bm fw gp ga bp fc fj rA rC ft kd aG sR (rcS kd sR sT j v u (i + 1)) wh dY pd cN mN sv nd wr (rcL kd sR sT wh tl j v u (i + 1)) lt lT lD gv gn od br)]) H := by rw [← ew12]; exact hP
                have hD : va_D A (fl [(wO kC ad td rn pn an jn (rcT kd sR sT j v u (i + 1)) bm fw gp ga bp fc fj rA rC ft kd aG sR (rcS kd sR sT j v u (i + 1)) wh dY pd cN mN sv nd wr (rcL kd sR sT wh tl j v u (i + 1)) lt lT lD gv gn od br)]) := by rw [← ew12]; exact hD
                exact ih17 (i + 1) (by omega) (hi) _ _ hP hD hS ls (lv_sub hl [1, 2, 3, 4, 0] rfl)
              · refine lv_aload_n hx hb d_O_recall_62 rfl (lv_at hl 0 rfl) ?_
                refine fv_get (ci := 7) (v := .ref (ad 7)) (C := R_O) (T := F_O) (N := 36) hx hb hts (by decide +kernel) hown hK hP 0 0 rfl rfl rfl 9 (by decide) (hts (.fieldLink R_O 30 "PartShelvesModel" "states" "[I") (by decide +kernel)) (fun _ h9 => h9) rfl d_O_recall_63 ?_
                refine lv_iload hx hb d_O_recall_66 (lv_at hl 4 rfl) ?_
                refine fa_ialdN hx hb hK hP 0 7 0 rfl rfl rfl (by omega) (by decide) d_O_recall_68 ?_
                refine nv_topi (y := nI (sT i)) (congrArg nI (rcS_ge kd sR sT j v u i (Nat.le_refl i))) ?_
                refine lv_iconst (v := nI 2) hx hb d_O_recall_69 (by decide) ?_
                refine nv_icmp_ne (tgt := 108) hx hb d_O_recall_70 (by decide) (by have := hsT i; omega) (by omega) (fun h4 => ?_) (fun h4 => ?_)
                · refine lv_aload_n hx hb d_O_recall_108 rfl (lv_at hl 0 rfl) ?_
                  refine fv_get (ci := 7) (v := .ref (ad 7)) (C := R_O) (T := F_O) (N := 36) hx hb hts (by decide +kernel) hown hK hP 0 0 rfl rfl rfl 9 (by decide) (hts (.fieldLink R_O 30 "PartShelvesModel" "states" "[I") (by decide +kernel)) (fun _ h9 => h9) rfl d_O_recall_109 ?_
                  refine lv_iload hx hb d_O_recall_112 (lv_at hl 4 rfl) ?_
                  refine lv_iconst (v := nI 3) hx hb d_O_recall_114 (by decide) ?_
                  refine fa_iastN hx hb hK hP hD hS 0 7 0 rfl rfl rfl (by omega) (by decide) d_O_recall_115 (fun H locs hP hD hS => ?_)
                  have hP : va_P D cls (fl [(wO kC ad td rn pn an jn (rcT kd sR sT j v u i) bm fw gp ga bp fc fj rA rC ft kd aG sR (updN (rcS kd sR sT j v u i) i 3) wh dY pd cN mN sv nd wr (rcL kd sR sT wh tl j v u i) lt lT lD gv gn od br)]) H := hP
                  have hD : va_D A (fl [(wO kC ad td rn pn an jn (rcT kd sR sT j v u i) bm fw gp ga bp fc fj rA rC ft kd aG sR (updN (rcS kd sR sT j v u i) i 3) wh dY pd cN mN sv nd wr (rcL kd sR sT wh tl j v u i) lt lT lD gv gn od br)]) := hD
                  refine lv_iinc (v := nI (i + 1)) (lv' := [(6, .int (nI (i + 1))), (0, .ref (ad 0)), (1, .int (nI j)), (2, .long v), (4, .long u)]) hx hb d_O_recall_116 hl (k := 4) rfl (nI_1 i) (by decide) rfl (fun ls hl => ?_)
                  refine lv_goto (tgt := 17) hx hb d_O_recall_119 (by decide) ?_
                  have hm : rcC kd sR j v u i := ⟨h1, Int64.not_lt.mp h2, Int64.not_lt.mp h3⟩
                  have ew13 : (rcL kd sR sT wh tl j v u i) = (rcL kd sR sT wh tl j v u (i + 1)) := (if_neg (fun q => h4 q.2)).symm
                  have hP : va_P D cls (fl [(wO kC ad td rn pn an jn (rcT kd sR sT j v u i) bm fw gp ga bp fc fj rA rC ft kd aG sR (updN (rcS kd sR sT j v u i) i 3) wh dY pd cN mN sv nd wr (rcL kd sR sT wh tl j v u (i + 1)) lt lT lD gv gn od br)]) H := by rw [← ew13]; exact hP
                  have hD : va_D A (fl [(wO kC ad td rn pn an jn (rcT kd sR sT j v u i) bm fw gp ga bp fc fj rA rC ft kd aG sR (updN (rcS kd sR sT j v u i) i 3) wh dY pd cN mN sv nd wr (rcL kd sR sT wh tl j v u (i + 1)) lt lT lD gv gn od br)]) := by rw [← ew13]; exact hD
                  have ew14 : (rcT kd sR sT j v u i) = (rcT kd sR sT j v u (i + 1)) := (if_neg (fun q => h4 q.2)).symm
                  have hP : va_P D cls (fl [(wO kC ad td rn pn an jn (rcT kd sR sT j v u (i + 1)) bm fw gp ga bp fc fj rA rC ft kd aG sR (updN (rcS kd sR sT j v u i) i 3) wh dY pd cN mN sv nd wr (rcL kd sR sT wh tl j v u (i + 1)) lt lT lD gv gn od br)]) H := by rw [← ew14]; exact hP
                  have hD : va_D A (fl [(wO kC ad td rn pn an jn (rcT kd sR sT j v u (i + 1)) bm fw gp ga bp fc fj rA rC ft kd aG sR (updN (rcS kd sR sT j v u i) i 3) wh dY pd cN mN sv nd wr (rcL kd sR sT wh tl j v u (i + 1)) lt lT lD gv gn od br)]) := by rw [← ew14]; exact hD
                  have ew15 : (updN (rcS kd sR sT j v u i) i 3) = (rcS kd sR sT j v u (i + 1)) := (if_pos ⟨hm, h4⟩).symm
                  have hP : va_P D cls (fl [(wO kC ad td rn pn an jn (rcT kd sR sT j v u (i + 1)) bm fw gp ga bp fc fj rA rC ft kd aG sR (rcS kd sR sT j v u (i + 1)) wh dY pd cN mN sv nd wr (rcL kd sR sT wh tl j v u (i + 1)) lt lT lD gv gn od br)]) H := by rw [← ew15]; exact hP
                  have hD : va_D A (fl [(wO kC ad td rn pn an jn (rcT kd sR sT j v u (i + 1)) bm fw gp ga bp fc fj rA rC ft kd aG sR (rcS kd sR sT j v u (i + 1)) wh dY pd cN mN sv nd wr (rcL kd sR sT wh tl j v u (i + 1)) lt lT lD gv gn od br)]) := by rw [← ew15]; exact hD
                  exact ih17 (i + 1) (by omega) (hi) _ _ hP hD hS ls (lv_sub hl [1, 2, 3, 4, 0] rfl)
                · refine lv_aload_n hx hb d_O_recall_73 rfl (lv_at hl 0 rfl) ?_
                  refine fv_get (ci := 7) (v := .ref (ad 16)) (C := R_O) (T := F_O) (N := 36) hx hb hts (by decide +kernel) hown hK hP 0 0 rfl rfl rfl 21 (by decide) (hts (.fieldLink R_O 57 "PartShelvesModel" "tells" "[I") (by decide +kernel)) (fun _ h9 => h9) rfl d_O_recall_74 ?_
                  refine lv_aload_n hx hb d_O_recall_77 rfl (lv_at hl 0 rfl) ?_
                  refine fv_get (ci := 7) (v := .int (nI (rcT kd sR sT j v u i))) (C := R_O) (T := F_O) (N := 36) hx hb hts (by decide +kernel) hown hK hP 0 0 rfl rfl rfl 20 (by decide) (hts (.fieldLink R_O 183 "PartShelvesModel" "tellCount" "I") (by decide +kernel)) (fun _ h9 => h9) rfl d_O_recall_78 ?_
                  refine lv_bipush (v := nI 10) hx hb d_O_recall_81 (by decide +kernel) ?_
                  refine lv_iload hx hb d_O_recall_83 (lv_at hl 4 rfl) ?_
                  refine nv_imul hx hb d_O_recall_85 ?_
                  refine lv_aload_n hx hb d_O_recall_86 rfl (lv_at hl 0 rfl) ?_
                  refine fv_get (ci := 7) (v := .ref (ad 8)) (C := R_O) (T := F_O) (N := 36) hx hb hts (by decide +kernel) hown hK hP 0 0 rfl rfl rfl 10 (by decide) (hts (.fieldLink R_O 33 "PartShelvesModel" "whose" "[I") (by decide +kernel)) (fun _ h9 => h9) rfl d_O_recall_87 ?_
                  refine lv_iload hx hb d_O_recall_90 (lv_at hl 4 rfl) ?_
                  refine fa_ialdN hx hb hK hP 0 8 0 rfl rfl rfl (by omega) (by decide) d_O_recall_92 ?_
                  refine nv_iadd hx hb d_O_recall_93 ?_
                  refine fa_iastN hx hb hK hP hD hS 0 16 0 rfl rfl rfl (by omega) (by decide) d_O_recall_94 (fun H locs hP hD hS => ?_)
                  have hP : va_P D cls (fl [(wO kC ad td rn pn an jn (rcT kd sR sT j v u i) bm fw gp ga bp fc fj rA rC ft kd aG sR (rcS kd sR sT j v u i) wh dY pd cN mN sv nd wr (updN (rcL kd sR sT wh tl j v u i) (rcT kd sR sT j v u i) (10 * i + wh i)) lt lT lD gv gn od br)]) H := hP
                  have hD : va_D A (fl [(wO kC ad td rn pn an jn (rcT kd sR sT j v u i) bm fw gp ga bp fc fj rA rC ft kd aG sR (rcS kd sR sT j v u i) wh dY pd cN mN sv nd wr (updN (rcL kd sR sT wh tl j v u i) (rcT kd sR sT j v u i) (10 * i + wh i)) lt lT lD gv gn od br)]) := hD
                  refine lv_aload_n hx hb d_O_recall_95 rfl (lv_at hl 0 rfl) ?_
                  refine lv_dup hx hb d_O_recall_96 rfl ?_
                  refine fv_get (ci := 7) (v := .int (nI (rcT kd sR sT j v u i))) (C := R_O) (T := F_O) (N := 36) hx hb hts (by decide +kernel) hown hK hP 0 0 rfl rfl rfl 20 (by decide) (hts (.fieldLink R_O 183 "PartShelvesModel" "tellCount" "I") (by decide +kernel)) (fun _ h9 => h9) rfl d_O_recall_97 ?_
                  refine lv_iconst (v := nI 1) hx hb d_O_recall_100 (by decide) ?_
                  refine nv_iadd hx hb d_O_recall_101 ?_
                  refine fv_put (ci := 7) (v := .int (nI ((rcT kd sR sT j v u i) + 1))) (ty := (.int)) (C := R_O) (T := F_O) (N := 36) hx hb hts (by decide +kernel) t_O t_O_ok n_O hown hK hP hD hS 0 0 rfl rfl rfl 20 (by decide) (hts (.fieldLink R_O 183 "PartShelvesModel" "tellCount" "I") (by decide +kernel)) (fun _ h9 => h9) rfl (by decide +kernel) (rfl) (rfl) (Nat.le_of_ble_eq_true rfl) d_O_recall_102 (fun H locs hP hD hS => ?_)
                  have hP : va_P D cls (fl [(wO kC ad td rn pn an jn ((rcT kd sR sT j v u i) + 1) bm fw gp ga bp fc fj rA rC ft kd aG sR (rcS kd sR sT j v u i) wh dY pd cN mN sv nd wr (updN (rcL kd sR sT wh tl j v u i) (rcT kd sR sT j v u i) (10 * i + wh i)) lt lT lD gv gn od br)]) H := hP
                  have hD : va_D A (fl [(wO kC ad td rn pn an jn ((rcT kd sR sT j v u i) + 1) bm fw gp ga bp fc fj rA rC ft kd aG sR (rcS kd sR sT j v u i) wh dY pd cN mN sv nd wr (updN (rcL kd sR sT wh tl j v u i) (rcT kd sR sT j v u i) (10 * i + wh i)) lt lT lD gv gn od br)]) := hD
                  refine lv_goto (tgt := 116) hx hb d_O_recall_105 (by decide) ?_
                  refine lv_iinc (v := nI (i + 1)) (lv' := [(6, .int (nI (i + 1))), (0, .ref (ad 0)), (1, .int (nI j)), (2, .long v), (4, .long u)]) hx hb d_O_recall_116 hl (k := 4) rfl (nI_1 i) (by decide) rfl (fun ls hl => ?_)
                  refine lv_goto (tgt := 17) hx hb d_O_recall_119 (by decide) ?_
                  have hm : rcC kd sR j v u i := ⟨h1, Int64.not_lt.mp h2, Int64.not_lt.mp h3⟩
                  have ew16 : (updN (rcL kd sR sT wh tl j v u i) (rcT kd sR sT j v u i) (10 * i + wh i)) = (rcL kd sR sT wh tl j v u (i + 1)) := (if_pos ⟨hm, h4⟩).symm
                  have hP : va_P D cls (fl [(wO kC ad td rn pn an jn ((rcT kd sR sT j v u i) + 1) bm fw gp ga bp fc fj rA rC ft kd aG sR (rcS kd sR sT j v u i) wh dY pd cN mN sv nd wr (rcL kd sR sT wh tl j v u (i + 1)) lt lT lD gv gn od br)]) H := by rw [← ew16]; exact hP
                  have hD : va_D A (fl [(wO kC ad td rn pn an jn ((rcT kd sR sT j v u i) + 1) bm fw gp ga bp fc fj rA rC ft kd aG sR (rcS kd sR sT j v u i) wh dY pd cN mN sv nd wr (rcL kd sR sT wh tl j v u (i + 1)) lt lT lD gv gn od br)]) := by rw [← ew16]; exact hD
                  have ew17 : ((rcT kd sR sT j v u i) + 1) = (rcT kd sR sT j v u (i + 1)) := (if_pos ⟨hm, h4⟩).symm
                  have hP : va_P D cls (fl [(wO kC ad td rn pn an jn (rcT kd sR sT j v u (i + 1)) bm fw gp ga bp fc fj rA rC ft kd aG sR (rcS kd sR sT j v u i) wh dY pd cN mN sv nd wr (rcL kd sR sT wh tl j v u (i + 1)) lt lT lD gv gn od br)]) H := by rw [← ew17]; exact hP
                  have hD : va_D A (fl [(wO kC ad td rn pn an jn (rcT kd sR sT j v u (i + 1)) bm fw gp ga bp fc fj rA rC ft kd aG sR (rcS kd sR sT j v u i) wh dY pd cN mN sv nd wr (rcL kd sR sT wh tl j v u (i + 1)) lt lT lD gv gn od br)]) := by rw [← ew17]; exact hD
                  have ew18 : (rcS kd sR sT j v u i) = (rcS kd sR sT j v u (i + 1)) := (if_neg (fun q => q.2 h4)).symm
                  have hP : va_P D cls (fl [(wO kC ad td rn pn an jn (rcT kd sR sT j v u (i + 1)) bm fw gp ga bp fc fj rA rC ft kd aG sR (rcS kd sR sT j v u (i + 1)) wh dY pd cN mN sv nd wr (rcL kd sR sT wh tl j v u (i + 1)) lt lT lD gv gn od br)]) H := by rw [← ew18]; exact hP
                  have hD : va_D A (fl [(wO kC ad td rn pn an jn (rcT kd sR sT j v u (i + 1)) bm fw gp ga bp fc fj rA rC ft kd aG sR (rcS kd sR sT j v u (i + 1)) wh dY pd cN mN sv nd wr (rcL kd sR sT wh tl j v u (i + 1)) lt lT lD gv gn od br)]) := by rw [← ew18]; exact hD
                  exact ih17 (i + 1) (by omega) (hi) _ _ hP hD hS ls (lv_sub hl [1, 2, 3, 4, 0] rfl)
    exact L17 _ 0 (Nat.lt_succ_self _) (Nat.zero_le _) _ _ hP hD hS ls (lv_sub hl [1, 2, 3, 4, 0] rfl)
  · have hC := bI_0.mp h0
    refine lv_iconst (v := (-1)) hx hb d_O_recall_7 (by decide) ?_
    have ew19 : tn = (if inR x 6 then rcT kd sR sT (nOf x) v u pn else tn) := (if_neg hC).symm
    have hP : va_P D cls (fl [(wO kC ad td rn pn an jn (if inR x 6 then rcT kd sR sT (nOf x) v u pn else tn) bm fw gp ga bp fc fj rA rC ft kd aG sR sT wh dY pd cN mN sv nd wr tl lt lT lD gv gn od br)]) s.heap := by rw [← ew19]; exact hP
    have hD : va_D A (fl [(wO kC ad td rn pn an jn (if inR x 6 then rcT kd sR sT (nOf x) v u pn else tn) bm fw gp ga bp fc fj rA rC ft kd aG sR sT wh dY pd cN mN sv nd wr tl lt lT lD gv gn od br)]) := by rw [← ew19]; exact hD
    have ew20 : tl = (if inR x 6 then rcL kd sR sT wh tl (nOf x) v u pn else tl) := (if_neg hC).symm
    have hP : va_P D cls (fl [(wO kC ad td rn pn an jn (if inR x 6 then rcT kd sR sT (nOf x) v u pn else tn) bm fw gp ga bp fc fj rA rC ft kd aG sR sT wh dY pd cN mN sv nd wr (if inR x 6 then rcL kd sR sT wh tl (nOf x) v u pn else tl) lt lT lD gv gn od br)]) s.heap := by rw [← ew20]; exact hP
    have hD : va_D A (fl [(wO kC ad td rn pn an jn (if inR x 6 then rcT kd sR sT (nOf x) v u pn else tn) bm fw gp ga bp fc fj rA rC ft kd aG sR sT wh dY pd cN mN sv nd wr (if inR x 6 then rcL kd sR sT wh tl (nOf x) v u pn else tl) lt lT lD gv gn od br)]) := by rw [← ew20]; exact hD
    have ew21 : sT = (if inR x 6 then rcS kd sR sT (nOf x) v u pn else sT) := (if_neg hC).symm
    have hP : va_P D cls (fl [(wO kC ad td rn pn an jn (if inR x 6 then rcT kd sR sT (nOf x) v u pn else tn) bm fw gp ga bp fc fj rA rC ft kd aG sR (if inR x 6 then rcS kd sR sT (nOf x) v u pn else sT) wh dY pd cN mN sv nd wr (if inR x 6 then rcL kd sR sT wh tl (nOf x) v u pn else tl) lt lT lD gv gn od br)]) s.heap := by rw [← ew21]; exact hP
    have hD : va_D A (fl [(wO kC ad td rn pn an jn (if inR x 6 then rcT kd sR sT (nOf x) v u pn else tn) bm fw gp ga bp fc fj rA rC ft kd aG sR (if inR x 6 then rcS kd sR sT (nOf x) v u pn else sT) wh dY pd cN mN sv nd wr (if inR x 6 then rcL kd sR sT wh tl (nOf x) v u pn else tl) lt lT lD gv gn od br)]) := by rw [← ew21]; exact hD
    exact W.iret (v := (-1)) hx hb hr (fun t ht hW => by subst hAe; exact ⟨⟨(-1), (), rfl, (if_neg hC).symm, by rw [ht]; exact hP, va_K.moved hW.alike hK, hD⟩, hS.F ht⟩) (by subst hAe; exact hS.2.2) d_O_recall_8

abbrev b_O_gain : ByteArray := prog_9_method_25_code
def y_O_gain : MethodName := ⟨"PartShelvesModel", "gain", "(II)J"⟩
theorem d_O_gain_0 : decode b_O_gain 0 = .ok (.aload_n 0, 1) := by decide +kernel
theorem d_O_gain_1 : decode b_O_gain 1 = .ok (.getfield 148, 3) := by decide +kernel
theorem d_O_gain_4 : decode b_O_gain 4 = .ok (.ifCond .eq 36, 3) := by decide +kernel
theorem d_O_gain_7 : decode b_O_gain 7 = .ok (.iload_n 2, 1) := by decide +kernel
theorem d_O_gain_8 : decode b_O_gain 8 = .ok (.ifCond .lt 32, 3) := by decide +kernel
theorem d_O_gain_11 : decode b_O_gain 11 = .ok (.iload_n 1, 1) := by decide +kernel
theorem d_O_gain_12 : decode b_O_gain 12 = .ok (.ifCond .ne 11, 3) := by decide +kernel
theorem d_O_gain_15 : decode b_O_gain 15 = .ok (.iload_n 2, 1) := by decide +kernel
theorem d_O_gain_16 : decode b_O_gain 16 = .ok (.aload_n 0, 1) := by decide +kernel
theorem d_O_gain_17 : decode b_O_gain 17 = .ok (.getfield 134, 3) := by decide +kernel
theorem d_O_gain_20 : decode b_O_gain 20 = .ok (.if_icmp .lt 16, 3) := by decide +kernel
theorem d_O_gain_23 : decode b_O_gain 23 = .ok (.iload_n 1, 1) := by decide +kernel
theorem d_O_gain_24 : decode b_O_gain 24 = .ok (.iconst 1, 1) := by decide +kernel
theorem d_O_gain_25 : decode b_O_gain 25 = .ok (.if_icmp .ne 15, 3) := by decide +kernel
theorem d_O_gain_28 : decode b_O_gain 28 = .ok (.iload_n 2, 1) := by decide +kernel
theorem d_O_gain_29 : decode b_O_gain 29 = .ok (.aload_n 0, 1) := by decide +kernel
theorem d_O_gain_30 : decode b_O_gain 30 = .ok (.getfield 137, 3) := by decide +kernel
theorem d_O_gain_33 : decode b_O_gain 33 = .ok (.if_icmp .ge 7, 3) := by decide +kernel
theorem d_O_gain_36 : decode b_O_gain 36 = .ok (.iconst 1, 1) := by decide +kernel
theorem d_O_gain_37 : decode b_O_gain 37 = .ok (.goto 4, 3) := by decide +kernel
theorem d_O_gain_40 : decode b_O_gain 40 = .ok (.iconst 0, 1) := by decide +kernel
theorem d_O_gain_41 : decode b_O_gain 41 = .ok (.istore_n 3, 1) := by decide +kernel
theorem d_O_gain_42 : decode b_O_gain 42 = .ok (.iload_n 3, 1) := by decide +kernel
theorem d_O_gain_43 : decode b_O_gain 43 = .ok (.ifCond .eq 17, 3) := by decide +kernel
theorem d_O_gain_46 : decode b_O_gain 46 = .ok (.aload_n 0, 1) := by decide +kernel
theorem d_O_gain_47 : decode b_O_gain 47 = .ok (.getfield 72, 3) := by decide +kernel
theorem d_O_gain_50 : decode b_O_gain 50 = .ok (.bipush 8, 2) := by decide +kernel
theorem d_O_gain_52 : decode b_O_gain 52 = .ok (.iload_n 1, 1) := by decide +kernel
theorem d_O_gain_53 : decode b_O_gain 53 = .ok (.imul, 1) := by decide +kernel
theorem d_O_gain_54 : decode b_O_gain 54 = .ok (.iload_n 2, 1) := by decide +kernel
theorem d_O_gain_55 : decode b_O_gain 55 = .ok (.iadd, 1) := by decide +kernel
theorem d_O_gain_56 : decode b_O_gain 56 = .ok (.laload, 1) := by decide +kernel
theorem d_O_gain_57 : decode b_O_gain 57 = .ok (.goto 6, 3) := by decide +kernel
theorem d_O_gain_60 : decode b_O_gain 60 = .ok (.ldc2_w 115, 3) := by decide +kernel
theorem d_O_gain_63 : decode b_O_gain 63 = .ok (.lreturn, 1) := by decide +kernel
def w_O_gain : List Cond := .code y_O_gain b_O_gain 4 (some .long) :: ([.fieldLink "PartShelvesModel" 148 "PartShelvesModel" "isMatched" "Z", .fieldLink "PartShelvesModel" 134 "PartShelvesModel" "gainParts" "I", .fieldLink "PartShelvesModel" 137 "PartShelvesModel" "gainAsks" "I", .fieldLink "PartShelvesModel" 72 "PartShelvesModel" "gains" "[J", .constantLong "PartShelvesModel" 115 (-1)] ++ u_ws R_O F_O 36)
set_option maxHeartbeats 4000000 in
set_option maxRecDepth 100000 in
theorem c_O_gain (l : Launch) (D : va_G) (kC : Nat → ClassId) (ad : Nat → Nat) (td : Nat) (rn : Nat) (pn : Nat) (an : Nat) (jn : Nat) (tn : Nat) (bm : Int32) (fw : Int64) (gp : Nat) (ga : Nat) (bp : Int32) (fc : Int64) (fj : Nat) (rA : Nat → Nat) (rC : Nat → Nat) (ft : Nat → Int32) (kd : Nat → Nat) (aG : Nat → Nat) (sR : Nat → Nat) (sT : Nat → Nat) (wh : Nat → Nat) (dY : Nat → Nat) (pd : Nat → Nat) (cN : Nat → Nat) (mN : Nat → Nat) (sv : Nat → Int32) (nd : Nat → Nat) (wr : Nat → Nat) (tl : Nat → Nat) (lt : Nat → Int32) (lT : Nat → Nat) (lD : Nat → Nat) (gv : Nat → Int32) (gn : Nat → Int64) (od : Nat → Nat) (br : Nat → Nat) (x : Int32) (y : Int32) (hgp : gp ≤ 8) (hga : ga ≤ 8) : Met l y_O_gain w_O_gain ({ frames := 0, cells := 0, slots := 0, locals := 0 } : Room) (gPr cls D (tyL kC) [.ref (ad 0), .int x, .int y] (fl [(wO kC ad td rn pn an jn tn bm fw gp ga bp fc fj rA rC ft kd aG sR sT wh dY pd cN mN sv nd wr tl lt lT lD gv gn od br)])) (vp_Sl (fun r => r = (if (¬ bm = 0 ∧ ((x = nI 0 ∧ inR y gp) ∨ (x = nI 1 ∧ inR y ga))) then gn (8 * nOf x + nOf y) else -1))) 0 0 (fun _ => False) := by
  refine Met.ofW (cc := b_O_gain) (maxL := 4) (ret := (some .long)) (by decide) rfl ?_
  intro p e s m args below meth c s₁ B hml hv
  obtain ⟨rfl, hP, hK⟩ := hv
  have hx := B.exec
  have hb := B.bytes
  have hr := B.returns
  have hts := atoms_spec (ws := w_O_gain) B.pre
  have hown : s.vm.findClass R_O = some m.cls := findClass_of_methodNamed B.named
  have hlocks := B.notSynchronized
  have hl := lv_entry ([.ref (ad 0), .int x, .int y]) (n := 4) (Nat.le_of_ble_eq_true rfl)
  rw [lg_entry_eq]
  generalize (lg_sl ([.ref (ad 0), .int x, .int y]) ++ List.replicate (4 - (lg_sl ([.ref (ad 0), .int x, .int y])).length) Slot.unset).toArray = ls at hl ⊢
  have hl : lv_has ls 4 [(0, .ref (ad 0)), (1, .int x), (2, .int y)] := hl
  refine lv_aload_n hx hb d_O_gain_0 rfl (lv_at hl 0 rfl) ?_
  refine fv_get (ci := 7) (v := .int bm) (C := R_O) (T := F_O) (N := 36) hx hb hts (by decide +kernel) hown hK hP 0 0 rfl rfl rfl 25 (by decide) (hts (.fieldLink R_O 148 "PartShelvesModel" "isMatched" "Z") (by decide +kernel)) (fun _ h9 => h9) rfl d_O_gain_1 ?_
  refine lv_if_eq (tgt := 40) hx hb d_O_gain_4 (by decide) (fun hb0 => ?_) (fun hb0 => ?_)
  · refine lv_iconst (v := nI 0) hx hb d_O_gain_40 (by decide) ?_
    refine lv_istore_n (lv' := [(3, .int (nI 0)), (0, .ref (ad 0)), (1, .int x), (2, .int y)]) hx hb d_O_gain_41 rfl hl (by decide) rfl (fun ls hl => ?_)
    refine lv_iload_n hx hb d_O_gain_42 rfl (lv_at hl 0 rfl) ?_
    refine nv_if_eq (tgt := 60) hx hb d_O_gain_43 (by decide) (by decide) (fun c1 => ?_) (fun c1 => ?_)
    · refine lv_ldc2 (v := (-1)) hx hb hown (hts (.constantLong R_O 115 (-1)) (by decide +kernel)) d_O_gain_60 ?_
      exact W.lret (v := (-1)) hx hb hr (fun t ht hW => ⟨_, rfl, (if_neg (fun q => by first | exact q.1 hb0 | exact q.2.elim (fun z => inR_lt h0 z.2) (fun z => inR_lt h0 z.2) | exact q.2.elim (fun z => h1 (by obtain ⟨k, hk, e⟩ := inR_n (by omega) z.2; rw [e]; exact nI_lt hk (by omega))) (fun z => by first | exact h2 z.1 | exact inR_ge (by omega) h3 z.2) | exact q.2.elim (fun z => hx0 z.1) (fun z => by first | exact h2 z.1 | exact inR_ge (by omega) h3 z.2))).symm, ht⟩) t_nil d_O_gain_63
    · exact absurd c1 (by decide)
  · refine lv_iload_n hx hb d_O_gain_7 rfl (lv_at hl 2 rfl) ?_
    refine lv_if_lt (tgt := 40) hx hb d_O_gain_8 (by decide) (fun h0 => ?_) (fun h0 => ?_)
    · refine lv_iconst (v := nI 0) hx hb d_O_gain_40 (by decide) ?_
      refine lv_istore_n (lv' := [(3, .int (nI 0)), (0, .ref (ad 0)), (1, .int x), (2, .int y)]) hx hb d_O_gain_41 rfl hl (by decide) rfl (fun ls hl => ?_)
      refine lv_iload_n hx hb d_O_gain_42 rfl (lv_at hl 0 rfl) ?_
      refine nv_if_eq (tgt := 60) hx hb d_O_gain_43 (by decide) (by decide) (fun c2 => ?_) (fun c2 => ?_)
      · refine lv_ldc2 (v := (-1)) hx hb hown (hts (.constantLong R_O 115 (-1)) (by decide +kernel)) d_O_gain_60 ?_
        exact W.lret (v := (-1)) hx hb hr (fun t ht hW => ⟨_, rfl, (if_neg (fun q => by first | exact q.1 hb0 | exact q.2.elim (fun z => inR_lt h0 z.2) (fun z => inR_lt h0 z.2) | exact q.2.elim (fun z => h1 (by obtain ⟨k, hk, e⟩ := inR_n (by omega) z.2; rw [e]; exact nI_lt hk (by omega))) (fun z => by first | exact h2 z.1 | exact inR_ge (by omega) h3 z.2) | exact q.2.elim (fun z => hx0 z.1) (fun z => by first | exact h2 z.1 | exact inR_ge (by omega) h3 z.2))).symm, ht⟩) t_nil d_O_gain_63
      · exact absurd c2 (by decide)
    · refine lv_iload_n hx hb d_O_gain_11 rfl (lv_at hl 1 rfl) ?_
      refine lv_if_ne (tgt := 23) hx hb d_O_gain_12 (by decide) (fun hx0 => ?_) (fun hx0 => ?_)
      · refine lv_iload_n hx hb d_O_gain_23 rfl (lv_at hl 1 rfl) ?_
        refine lv_iconst (v := nI 1) hx hb d_O_gain_24 (by decide) ?_
        refine lv_icmp_ne (tgt := 40) hx hb d_O_gain_25 (by decide) (fun h2 => ?_) (fun h2 => ?_)
        · refine lv_iconst (v := nI 0) hx hb d_O_gain_40 (by decide) ?_
          refine lv_istore_n (lv' := [(3, .int (nI 0)), (0, .ref (ad 0)), (1, .int x), (2, .int y)]) hx hb d_O_gain_41 rfl hl (by decide) rfl (fun ls hl => ?_)
          refine lv_iload_n hx hb d_O_gain_42 rfl (lv_at hl 0 rfl) ?_
          refine nv_if_eq (tgt := 60) hx hb d_O_gain_43 (by decide) (by decide) (fun c3 => ?_) (fun c3 => ?_)
          · refine lv_ldc2 (v := (-1)) hx hb hown (hts (.constantLong R_O 115 (-1)) (by decide +kernel)) d_O_gain_60 ?_
            exact W.lret (v := (-1)) hx hb hr (fun t ht hW => ⟨_, rfl, (if_neg (fun q => by first | exact q.1 hb0 | exact q.2.elim (fun z => inR_lt h0 z.2) (fun z => inR_lt h0 z.2) | exact q.2.elim (fun z => h1 (by obtain ⟨k, hk, e⟩ := inR_n (by omega) z.2; rw [e]; exact nI_lt hk (by omega))) (fun z => by first | exact h2 z.1 | exact inR_ge (by omega) h3 z.2) | exact q.2.elim (fun z => hx0 z.1) (fun z => by first | exact h2 z.1 | exact inR_ge (by omega) h3 z.2))).symm, ht⟩) t_nil d_O_gain_63
          · exact absurd c3 (by decide)
        · refine lv_iload_n hx hb d_O_gain_28 rfl (lv_at hl 2 rfl) ?_
          refine lv_aload_n hx hb d_O_gain_29 rfl (lv_at hl 0 rfl) ?_
          refine fv_get (ci := 7) (v := .int (nI ga)) (C := R_O) (T := F_O) (N := 36) hx hb hts (by decide +kernel) hown hK hP 0 0 rfl rfl rfl 29 (by decide) (hts (.fieldLink R_O 137 "PartShelvesModel" "gainAsks" "I") (by decide +kernel)) (fun _ h9 => h9) rfl d_O_gain_30 ?_
          refine lv_icmp_ge (tgt := 40) hx hb d_O_gain_33 (by decide) (fun h3 => ?_) (fun h3 => ?_)
          · refine lv_iconst (v := nI 0) hx hb d_O_gain_40 (by decide) ?_
            refine lv_istore_n (lv' := [(3, .int (nI 0)), (0, .ref (ad 0)), (1, .int x), (2, .int y)]) hx hb d_O_gain_41 rfl hl (by decide) rfl (fun ls hl => ?_)
            refine lv_iload_n hx hb d_O_gain_42 rfl (lv_at hl 0 rfl) ?_
            refine nv_if_eq (tgt := 60) hx hb d_O_gain_43 (by decide) (by decide) (fun c4 => ?_) (fun c4 => ?_)
            · refine lv_ldc2 (v := (-1)) hx hb hown (hts (.constantLong R_O 115 (-1)) (by decide +kernel)) d_O_gain_60 ?_
              exact W.lret (v := (-1)) hx hb hr (fun t ht hW => ⟨_, rfl, (if_neg (fun q => by first | exact q.1 hb0 | exact q.2.elim (fun z => inR_lt h0 z.2) (fun z => inR_lt h0 z.2) | exact q.2.elim (fun z => h1 (by obtain ⟨k, hk, e⟩ := inR_n (by omega) z.2; rw [e]; exact nI_lt hk (by omega))) (fun z => by first | exact h2 z.1 | exact inR_ge (by omega) h3 z.2) | exact q.2.elim (fun z => hx0 z.1) (fun z => by first | exact h2 z.1 | exact inR_ge (by omega) h3 z.2))).symm, ht⟩) t_nil d_O_gain_63
            · exact absurd c4 (by decide)
          · obtain rfl : x = nI 1 := h2
            obtain ⟨k, hk, rfl⟩ := in_of (by omega) h0 h3
            refine lv_iconst (v := nI 1) hx hb d_O_gain_36 (by decide) ?_
            refine lv_goto (tgt := 41) hx hb d_O_gain_37 (by decide) ?_
            refine lv_istore_n (lv' := [(3, .int (nI 1)), (0, .ref (ad 0)), (1, .int (nI 1)), (2, .int (nI k))]) hx hb d_O_gain_41 rfl hl (by decide) rfl (fun ls hl => ?_)
            refine lv_iload_n hx hb d_O_gain_42 rfl (lv_at hl 0 rfl) ?_
            refine nv_if_eq (tgt := 60) hx hb d_O_gain_43 (by decide) (by decide) (fun c5 => ?_) (fun c5 => ?_)
            · exact absurd c5 (by decide)
            · refine lv_aload_n hx hb d_O_gain_46 rfl (lv_at hl 1 rfl) ?_
              refine fv_get (ci := 7) (v := .ref (ad 21)) (C := R_O) (T := F_O) (N := 36) hx hb hts (by decide +kernel) hown hK hP 0 0 rfl rfl rfl 30 (by decide) (hts (.fieldLink R_O 72 "PartShelvesModel" "gains" "[J") (by decide +kernel)) (fun _ h9 => h9) rfl d_O_gain_47 ?_
              refine lv_bipush (v := nI 8) hx hb d_O_gain_50 (by decide +kernel) ?_
              refine lv_iload_n hx hb d_O_gain_52 rfl (lv_at hl 2 rfl) ?_
              refine nv_imul hx hb d_O_gain_53 ?_
              refine lv_iload_n hx hb d_O_gain_54 rfl (lv_at hl 3 rfl) ?_
              refine nv_iadd hx hb d_O_gain_55 ?_
              refine fa_lald hx hb hK hP 0 21 1 rfl rfl rfl (by omega) (by decide) d_O_gain_56 ?_
              refine lv_goto (tgt := 63) hx hb d_O_gain_57 (by decide) ?_
              exact W.lret (v := gn (8 * 1 + k)) hx hb hr (fun t ht hW => ⟨_, rfl, by rw [if_pos ⟨hb0, by first | exact Or.inl ⟨rfl, (inR_nI (by omega)).mpr hk⟩ | exact Or.inr ⟨rfl, (inR_nI (by omega)).mpr hk⟩⟩, nOf_nI (by decide), nOf_nI (by omega)], ht⟩) t_nil d_O_gain_63
      · refine lv_iload_n hx hb d_O_gain_15 rfl (lv_at hl 2 rfl) ?_
        refine lv_aload_n hx hb d_O_gain_16 rfl (lv_at hl 0 rfl) ?_
        refine fv_get (ci := 7) (v := .int (nI gp)) (C := R_O) (T := F_O) (N := 36) hx hb hts (by decide +kernel) hown hK hP 0 0 rfl rfl rfl 28 (by decide) (hts (.fieldLink R_O 134 "PartShelvesModel" "gainParts" "I") (by decide +kernel)) (fun _ h9 => h9) rfl d_O_gain_17 ?_
        refine lv_icmp_lt (tgt := 36) hx hb d_O_gain_20 (by decide) (fun h1 => ?_) (fun h1 => ?_)
        · obtain rfl : x = nI 0 := hx0
          obtain ⟨k, hk, rfl⟩ := in_of (by omega) h0 (Int32.not_le.mpr h1)
          refine lv_iconst (v := nI 1) hx hb d_O_gain_36 (by decide) ?_
          refine lv_goto (tgt := 41) hx hb d_O_gain_37 (by decide) ?_
          refine lv_istore_n (lv' := [(3, .int (nI 1)), (0, .ref (ad 0)), (1, .int (nI 0)), (2, .int (nI k))]) hx hb d_O_gain_41 rfl hl (by decide) rfl (fun ls hl => ?_)
          refine lv_iload_n hx hb d_O_gain_42 rfl (lv_at hl 0 rfl) ?_
          refine nv_if_eq (tgt := 60) hx hb d_O_gain_43 (by decide) (by decide) (fun c6 => ?_) (fun c6 => ?_)
          · exact absurd c6 (by decide)
          · refine lv_aload_n hx hb d_O_gain_46 rfl (lv_at hl 1 rfl) ?_
            refine fv_get (ci := 7) (v := .ref (ad 21)) (C := R_O) (T := F_O) (N := 36) hx hb hts (by decide +kernel) hown hK hP 0 0 rfl rfl rfl 30 (by decide) (hts (.fieldLink R_O 72 "PartShelvesModel" "gains" "[J") (by decide +kernel)) (fun _ h9 => h9) rfl d_O_gain_47 ?_
            refine lv_bipush (v := nI 8) hx hb d_O_gain_50 (by decide +kernel) ?_
            refine lv_iload_n hx hb d_O_gain_52 rfl (lv_at hl 2 rfl) ?_
            refine nv_imul hx hb d_O_gain_53 ?_
            refine lv_iload_n hx hb d_O_gain_54 rfl (lv_at hl 3 rfl) ?_
            refine nv_iadd hx hb d_O_gain_55 ?_
            refine fa_lald hx hb hK hP 0 21 1 rfl rfl rfl (by omega) (by decide) d_O_gain_56 ?_
            refine lv_goto (tgt := 63) hx hb d_O_gain_57 (by decide) ?_
            exact W.lret (v := gn (8 * 0 + k)) hx hb hr (fun t ht hW => ⟨_, rfl, by rw [if_pos ⟨hb0, by first | exact Or.inl ⟨rfl, (inR_nI (by omega)).mpr hk⟩ | exact Or.inr ⟨rfl, (inR_nI (by omega)).mpr hk⟩⟩, nOf_nI (by decide), nOf_nI (by omega)], ht⟩) t_nil d_O_gain_63
        · refine lv_iload_n hx hb d_O_gain_23 rfl (lv_at hl 1 rfl) ?_
          refine lv_iconst (v := nI 1) hx hb d_O_gain_24 (by decide) ?_
          refine lv_icmp_ne (tgt := 40) hx hb d_O_gain_25 (by decide) (fun h2 => ?_) (fun h2 => ?_)
          · refine lv_iconst (v := nI 0) hx hb d_O_gain_40 (by decide) ?_
            refine lv_istore_n (lv' := [(3, .int (nI 0)), (0, .ref (ad 0)), (1, .int x), (2, .int y)]) hx hb d_O_gain_41 rfl hl (by decide) rfl (fun ls hl => ?_)
            refine lv_iload_n hx hb d_O_gain_42 rfl (lv_at hl 0 rfl) ?_
            refine nv_if_eq (tgt := 60) hx hb d_O_gain_43 (by decide) (by decide) (fun c7 => ?_) (fun c7 => ?_)
            · refine lv_ldc2 (v := (-1)) hx hb hown (hts (.constantLong R_O 115 (-1)) (by decide +kernel)) d_O_gain_60 ?_
              exact W.lret (v := (-1)) hx hb hr (fun t ht hW => ⟨_, rfl, (if_neg (fun q => by first | exact q.1 hb0 | exact q.2.elim (fun z => inR_lt h0 z.2) (fun z => inR_lt h0 z.2) | exact q.2.elim (fun z => h1 (by obtain ⟨k, hk, e⟩ := inR_n (by omega) z.2; rw [e]; exact nI_lt hk (by omega))) (fun z => by first | exact h2 z.1 | exact inR_ge (by omega) h3 z.2) | exact q.2.elim (fun z => hx0 z.1) (fun z => by first | exact h2 z.1 | exact inR_ge (by omega) h3 z.2))).symm, ht⟩) t_nil d_O_gain_63
            · exact absurd c7 (by decide)
          · refine lv_iload_n hx hb d_O_gain_28 rfl (lv_at hl 2 rfl) ?_
            refine lv_aload_n hx hb d_O_gain_29 rfl (lv_at hl 0 rfl) ?_
            refine fv_get (ci := 7) (v := .int (nI ga)) (C := R_O) (T := F_O) (N := 36) hx hb hts (by decide +kernel) hown hK hP 0 0 rfl rfl rfl 29 (by decide) (hts (.fieldLink R_O 137 "PartShelvesModel" "gainAsks" "I") (by decide +kernel)) (fun _ h9 => h9) rfl d_O_gain_30 ?_
            refine lv_icmp_ge (tgt := 40) hx hb d_O_gain_33 (by decide) (fun h3 => ?_) (fun h3 => ?_)
            · refine lv_iconst (v := nI 0) hx hb d_O_gain_40 (by decide) ?_
              refine lv_istore_n (lv' := [(3, .int (nI 0)), (0, .ref (ad 0)), (1, .int x), (2, .int y)]) hx hb d_O_gain_41 rfl hl (by decide) rfl (fun ls hl => ?_)
              refine lv_iload_n hx hb d_O_gain_42 rfl (lv_at hl 0 rfl) ?_
              refine nv_if_eq (tgt := 60) hx hb d_O_gain_43 (by decide) (by decide) (fun c8 => ?_) (fun c8 => ?_)
              · refine lv_ldc2 (v := (-1)) hx hb hown (hts (.constantLong R_O 115 (-1)) (by decide +kernel)) d_O_gain_60 ?_
                exact W.lret (v := (-1)) hx hb hr (fun t ht hW => ⟨_, rfl, (if_neg (fun q => by first | exact q.1 hb0 | exact q.2.elim (fun z => inR_lt h0 z.2) (fun z => inR_lt h0 z.2) | exact q.2.elim (fun z => h1 (by obtain ⟨k, hk, e⟩ := inR_n (by omega) z.2; rw [e]; exact nI_lt hk (by omega))) (fun z => by first | exact h2 z.1 | exact inR_ge (by omega) h3 z.2) | exact q.2.elim (fun z => hx0 z.1) (fun z => by first | exact h2 z.1 | exact inR_ge (by omega) h3 z.2))).symm, ht⟩) t_nil d_O_gain_63
              · exact absurd c8 (by decide)
            · obtain rfl : x = nI 1 := h2
              obtain ⟨k, hk, rfl⟩ := in_of (by omega) h0 h3
              refine lv_iconst (v := nI 1) hx hb d_O_gain_36 (by decide) ?_
              refine lv_goto (tgt := 41) hx hb d_O_gain_37 (by decide) ?_
              refine lv_istore_n (lv' := [(3, .int (nI 1)), (0, .ref (ad 0)), (1, .int (nI 1)), (2, .int (nI k))]) hx hb d_O_gain_41 rfl hl (by decide) rfl (fun ls hl => ?_)
              refine lv_iload_n hx hb d_O_gain_42 rfl (lv_at hl 0 rfl) ?_
              refine nv_if_eq (tgt := 60) hx hb d_O_gain_43 (by decide) (by decide) (fun c9 => ?_) (fun c9 => ?_)
              · exact absurd c9 (by decide)
              · refine lv_aload_n hx hb d_O_gain_46 rfl (lv_at hl 1 rfl) ?_
                refine fv_get (ci := 7) (v := .ref (ad 21)) (C := R_O) (T := F_O) (N := 36) hx hb hts (by decide +kernel) hown hK hP 0 0 rfl rfl rfl 30 (by decide) (hts (.fieldLink R_O 72 "PartShelvesModel" "gains" "[J") (by decide +kernel)) (fun _ h9 => h9) rfl d_O_gain_47 ?_
                refine lv_bipush (v := nI 8) hx hb d_O_gain_50 (by decide +kernel) ?_
                refine lv_iload_n hx hb d_O_gain_52 rfl (lv_at hl 2 rfl) ?_
                refine nv_imul hx hb d_O_gain_53 ?_
                refine lv_iload_n hx hb d_O_gain_54 rfl (lv_at hl 3 rfl) ?_
                refine nv_iadd hx hb d_O_gain_55 ?_
                refine fa_lald hx hb hK hP 0 21 1 rfl rfl rfl (by omega) (by decide) d_O_gain_56 ?_
                refine lv_goto (tgt := 63) hx hb d_O_gain_57 (by decide) ?_
                exact W.lret (v := gn (8 * 1 + k)) hx hb hr (fun t ht hW => ⟨_, rfl, by rw [if_pos ⟨hb0, by first | exact Or.inl ⟨rfl, (inR_nI (by omega)).mpr hk⟩ | exact Or.inr ⟨rfl, (inR_nI (by omega)).mpr hk⟩⟩, nOf_nI (by decide), nOf_nI (by omega)], ht⟩) t_nil d_O_gain_63

/-- how many jobs a set has -/
def szM (z : Nat) : Nat → Nat
  | 0 => 0
  | j + 1 => szM z j + z / 2 ^ j % 2
theorem szM_le (z : Nat) : ∀ j, szM z j ≤ j
  | 0 => Nat.le_refl 0
  | j + 1 => by
    have := szM_le z j
    show szM z j + z / 2 ^ j % 2 ≤ j + 1
    omega
abbrev b_O_sizeOf : ByteArray := prog_9_method_31_code
def y_O_sizeOf : MethodName := ⟨"PartShelvesModel", "sizeOf", "(I)I"⟩
theorem d_O_sizeOf_0 : decode b_O_sizeOf 0 = .ok (.iconst 0, 1) := by decide +kernel
theorem d_O_sizeOf_1 : decode b_O_sizeOf 1 = .ok (.istore_n 2, 1) := by decide +kernel
theorem d_O_sizeOf_2 : decode b_O_sizeOf 2 = .ok (.iconst 0, 1) := by decide +kernel
theorem d_O_sizeOf_3 : decode b_O_sizeOf 3 = .ok (.istore_n 3, 1) := by decide +kernel
theorem d_O_sizeOf_4 : decode b_O_sizeOf 4 = .ok (.iload_n 3, 1) := by decide +kernel
theorem d_O_sizeOf_5 : decode b_O_sizeOf 5 = .ok (.bipush 6, 2) := by decide +kernel
theorem d_O_sizeOf_7 : decode b_O_sizeOf 7 = .ok (.if_icmp .ge 17, 3) := by decide +kernel
theorem d_O_sizeOf_10 : decode b_O_sizeOf 10 = .ok (.iload_n 2, 1) := by decide +kernel
theorem d_O_sizeOf_11 : decode b_O_sizeOf 11 = .ok (.iload_n 1, 1) := by decide +kernel
theorem d_O_sizeOf_12 : decode b_O_sizeOf 12 = .ok (.iload_n 3, 1) := by decide +kernel
theorem d_O_sizeOf_13 : decode b_O_sizeOf 13 = .ok (.ishr, 1) := by decide +kernel
theorem d_O_sizeOf_14 : decode b_O_sizeOf 14 = .ok (.iconst 1, 1) := by decide +kernel
theorem d_O_sizeOf_15 : decode b_O_sizeOf 15 = .ok (.iand, 1) := by decide +kernel
theorem d_O_sizeOf_16 : decode b_O_sizeOf 16 = .ok (.iadd, 1) := by decide +kernel
theorem d_O_sizeOf_17 : decode b_O_sizeOf 17 = .ok (.istore_n 2, 1) := by decide +kernel
theorem d_O_sizeOf_18 : decode b_O_sizeOf 18 = .ok (.iinc 3 1, 3) := by decide +kernel
theorem d_O_sizeOf_21 : decode b_O_sizeOf 21 = .ok (.goto (-17), 3) := by decide +kernel
theorem d_O_sizeOf_24 : decode b_O_sizeOf 24 = .ok (.iload_n 2, 1) := by decide +kernel
theorem d_O_sizeOf_25 : decode b_O_sizeOf 25 = .ok (.ireturn, 1) := by decide +kernel
def w_O_sizeOf : List Cond := .code y_O_sizeOf b_O_sizeOf 4 (some .int) :: ([])
set_option maxHeartbeats 4000000 in
set_option maxRecDepth 100000 in
theorem c_O_sizeOf (l : Launch) (D : va_G) (kC : Nat → ClassId) (ad : Nat → Nat) (td : Nat) (rn : Nat) (pn : Nat) (an : Nat) (jn : Nat) (tn : Nat) (bm : Int32) (fw : Int64) (gp : Nat) (ga : Nat) (bp : Int32) (fc : Int64) (fj : Nat) (rA : Nat → Nat) (rC : Nat → Nat) (ft : Nat → Int32) (kd : Nat → Nat) (aG : Nat → Nat) (sR : Nat → Nat) (sT : Nat → Nat) (wh : Nat → Nat) (dY : Nat → Nat) (pd : Nat → Nat) (cN : Nat → Nat) (mN : Nat → Nat) (sv : Nat → Int32) (nd : Nat → Nat) (wr : Nat → Nat) (tl : Nat → Nat) (lt : Nat → Int32) (lT : Nat → Nat) (lD : Nat → Nat) (gv : Nat → Int32) (gn : Nat → Int64) (od : Nat → Nat) (br : Nat → Nat) (z : Nat) (hz : z < 64) : Met l y_O_sizeOf w_O_sizeOf ({ frames := 0, cells := 0, slots := 0, locals := 0 } : Room) (gPr cls D (tyL kC) [.ref (ad 0), .int (nI z)] (fl [(wO kC ad td rn pn an jn tn bm fw gp ga bp fc fj rA rC ft kd aG sR sT wh dY pd cN mN sv nd wr tl lt lT lD gv gn od br)])) (vp_Si (fun r => r = nI (szM z 6))) 0 0 (fun _ => False) := by
  refine Met.ofW (cc := b_O_sizeOf) (maxL := 4) (ret := (some .int)) (by decide) rfl ?_
  intro p e s m args below meth c s₁ B hml hv
  obtain ⟨rfl, hP, hK⟩ := hv
  have hx := B.exec
  have hb := B.bytes
  have hr := B.returns
  have hts := atoms_spec (ws := w_O_sizeOf) B.pre
  have hown : s.vm.findClass R_O = some m.cls := findClass_of_methodNamed B.named
  have hlocks := B.notSynchronized
  have hl := lv_entry ([.ref (ad 0), .int (nI z)]) (n := 4) (Nat.le_of_ble_eq_true rfl)
  rw [lg_entry_eq]
  generalize (lg_sl ([.ref (ad 0), .int (nI z)]) ++ List.replicate (4 - (lg_sl ([.ref (ad 0), .int (nI z)])).length) Slot.unset).toArray = ls at hl ⊢
  have hl : lv_has ls 4 [(0, .ref (ad 0)), (1, .int (nI z))] := hl
  refine lv_iconst (v := nI 0) hx hb d_O_sizeOf_0 (by decide) ?_
  refine lv_istore_n (lv' := [(2, .int (nI 0)), (0, .ref (ad 0)), (1, .int (nI z))]) hx hb d_O_sizeOf_1 rfl hl (by decide) rfl (fun ls hl => ?_)
  refine lv_iconst (v := nI 0) hx hb d_O_sizeOf_2 (by decide) ?_
  refine lv_istore_n (lv' := [(3, .int (nI 0)), (2, .int (nI 0)), (0, .ref (ad 0)), (1, .int (nI z))]) hx hb d_O_sizeOf_3 rfl hl (by decide) rfl (fun ls hl => ?_)
  have L4 : ∀ (n4 : Nat) (j : Nat), 6 - j < n4 → j ≤ 6 → ∀ (ls : Array Slot), lv_has ls 4 [(0, .ref (ad 0)), (1, .int (nI z)), (2, .int (nI (szM z j))), (3, .int (nI j))] → W p l e (headSpec w_O_sizeOf ({ frames := 0, cells := 0, slots := 0, locals := 0 } : Room)).room s m ([.ref (ad 0), .int (nI z)] : List Value).toArray below meth c s.heap [] 0 0 (MQ below (vp_Si (fun r => r = nI (szM z 6))) ([.ref (ad 0), .int (nI z)] : List Value).toArray s 0 0 (fun _ => False)) (F0 m 4 ls []) := by
    intro n4
    induction n4 with
    | zero =>
      intro j hm
      exact absurd hm (Nat.not_lt_zero _)
    | succ n4 ih4 =>
      intro j hm hj6 ls hl
      refine lv_iload_n hx hb d_O_sizeOf_4 rfl (lv_at hl 3 rfl) ?_
      refine lv_bipush (v := nI 6) hx hb d_O_sizeOf_5 (by decide +kernel) ?_
      refine nv_icmp_ge (tgt := 24) hx hb d_O_sizeOf_7 (by decide) (by omega) (by omega) (fun hj => ?_) (fun hj => ?_)
      · obtain rfl : j = 6 := by omega
        refine lv_iload_n hx hb d_O_sizeOf_24 rfl (lv_at hl 2 rfl) ?_
        exact W.iret (v := nI (szM z 6)) hx hb hr (fun t ht hW => ⟨_, rfl, rfl, ht⟩) t_nil d_O_sizeOf_25
      · refine lv_iload_n hx hb d_O_sizeOf_10 rfl (lv_at hl 2 rfl) ?_
        refine lv_iload_n hx hb d_O_sizeOf_11 rfl (lv_at hl 1 rfl) ?_
        refine lv_iload_n hx hb d_O_sizeOf_12 rfl (lv_at hl 3 rfl) ?_
        refine lv_ishr hx hb d_O_sizeOf_13 ?_
        refine lv_iconst (v := nI 1) hx hb d_O_sizeOf_14 (by decide) ?_
        refine lv_iand hx hb d_O_sizeOf_15 ?_
        refine nv_topi (y := nI (z / 2 ^ j % 2)) (bitI (by omega) (by omega)) ?_
        refine nv_iadd hx hb d_O_sizeOf_16 ?_
        refine lv_istore_n (lv' := [(2, .int (nI (szM z j + z / 2 ^ j % 2))), (0, .ref (ad 0)), (1, .int (nI z)), (3, .int (nI j))]) hx hb d_O_sizeOf_17 rfl hl (by decide) rfl (fun ls hl => ?_)
        refine lv_iinc (v := nI (j + 1)) (lv' := [(3, .int (nI (j + 1))), (2, .int (nI (szM z j + z / 2 ^ j % 2))), (0, .ref (ad 0)), (1, .int (nI z))]) hx hb d_O_sizeOf_18 hl (k := 3) rfl (nI_1 j) (by decide) rfl (fun ls hl => ?_)
        refine lv_goto (tgt := 4) hx hb d_O_sizeOf_21 (by decide) ?_
        exact ih4 (j + 1) (by omega) (hj) ls (lv_sub hl [2, 3, 1, 0] rfl)
  exact L4 _ 0 (Nat.lt_succ_self _) (by decide) ls (lv_sub hl [2, 3, 1, 0] rfl)

