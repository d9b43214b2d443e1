abbrev b_O_sortAsks : ByteArray := prog_9_method_19_code
def y_O_sortAsks : MethodName := ⟨"PartShelvesModel", "sortAsks", "()I"⟩
theorem d_O_sortAsks_0 : decode b_O_sortAsks 0 = .ok (.iconst 0, 1) := by decide +kernel
theorem d_O_sortAsks_1 : decode b_O_sortAsks 1 = .ok (.istore_n 1, 1) := by decide +kernel
theorem d_O_sortAsks_2 : decode b_O_sortAsks 2 = .ok (.iconst 0, 1) := by decide +kernel
theorem d_O_sortAsks_3 : decode b_O_sortAsks 3 = .ok (.istore_n 2, 1) := by decide +kernel
theorem d_O_sortAsks_4 : decode b_O_sortAsks 4 = .ok (.iload_n 2, 1) := by decide +kernel
theorem d_O_sortAsks_5 : decode b_O_sortAsks 5 = .ok (.aload_n 0, 1) := by decide +kernel
theorem d_O_sortAsks_6 : decode b_O_sortAsks 6 = .ok (.getfield 85, 3) := by decide +kernel
theorem d_O_sortAsks_9 : decode b_O_sortAsks 9 = .ok (.if_icmp .ge 76, 3) := by decide +kernel
theorem d_O_sortAsks_12 : decode b_O_sortAsks 12 = .ok (.aload_n 0, 1) := by decide +kernel
theorem d_O_sortAsks_13 : decode b_O_sortAsks 13 = .ok (.iload_n 2, 1) := by decide +kernel
theorem d_O_sortAsks_14 : decode b_O_sortAsks 14 = .ok (.invokevirtual 123, 3) := by decide +kernel
theorem d_O_sortAsks_17 : decode b_O_sortAsks 17 = .ok (.ifCond .eq 62, 3) := by decide +kernel
theorem d_O_sortAsks_20 : decode b_O_sortAsks 20 = .ok (.iload_n 1, 1) := by decide +kernel
theorem d_O_sortAsks_21 : decode b_O_sortAsks 21 = .ok (.istore_n 3, 1) := by decide +kernel
theorem d_O_sortAsks_22 : decode b_O_sortAsks 22 = .ok (.iload_n 3, 1) := by decide +kernel
theorem d_O_sortAsks_23 : decode b_O_sortAsks 23 = .ok (.ifCond .le 46, 3) := by decide +kernel
theorem d_O_sortAsks_26 : decode b_O_sortAsks 26 = .ok (.aload_n 0, 1) := by decide +kernel
theorem d_O_sortAsks_27 : decode b_O_sortAsks 27 = .ok (.getfield 45, 3) := by decide +kernel
theorem d_O_sortAsks_30 : decode b_O_sortAsks 30 = .ok (.aload_n 0, 1) := by decide +kernel
theorem d_O_sortAsks_31 : decode b_O_sortAsks 31 = .ok (.getfield 75, 3) := by decide +kernel
theorem d_O_sortAsks_34 : decode b_O_sortAsks 34 = .ok (.iload_n 3, 1) := by decide +kernel
theorem d_O_sortAsks_35 : decode b_O_sortAsks 35 = .ok (.iconst 1, 1) := by decide +kernel
theorem d_O_sortAsks_36 : decode b_O_sortAsks 36 = .ok (.isub, 1) := by decide +kernel
theorem d_O_sortAsks_37 : decode b_O_sortAsks 37 = .ok (.iaload, 1) := by decide +kernel
theorem d_O_sortAsks_38 : decode b_O_sortAsks 38 = .ok (.laload, 1) := by decide +kernel
theorem d_O_sortAsks_39 : decode b_O_sortAsks 39 = .ok (.aload_n 0, 1) := by decide +kernel
theorem d_O_sortAsks_40 : decode b_O_sortAsks 40 = .ok (.getfield 45, 3) := by decide +kernel
theorem d_O_sortAsks_43 : decode b_O_sortAsks 43 = .ok (.iload_n 2, 1) := by decide +kernel
theorem d_O_sortAsks_44 : decode b_O_sortAsks 44 = .ok (.laload, 1) := by decide +kernel
theorem d_O_sortAsks_45 : decode b_O_sortAsks 45 = .ok (.lcmp, 1) := by decide +kernel
theorem d_O_sortAsks_46 : decode b_O_sortAsks 46 = .ok (.ifCond .le 23, 3) := by decide +kernel
theorem d_O_sortAsks_49 : decode b_O_sortAsks 49 = .ok (.aload_n 0, 1) := by decide +kernel
theorem d_O_sortAsks_50 : decode b_O_sortAsks 50 = .ok (.getfield 75, 3) := by decide +kernel
theorem d_O_sortAsks_53 : decode b_O_sortAsks 53 = .ok (.iload_n 3, 1) := by decide +kernel
theorem d_O_sortAsks_54 : decode b_O_sortAsks 54 = .ok (.aload_n 0, 1) := by decide +kernel
theorem d_O_sortAsks_55 : decode b_O_sortAsks 55 = .ok (.getfield 75, 3) := by decide +kernel
theorem d_O_sortAsks_58 : decode b_O_sortAsks 58 = .ok (.iload_n 3, 1) := by decide +kernel
theorem d_O_sortAsks_59 : decode b_O_sortAsks 59 = .ok (.iconst 1, 1) := by decide +kernel
theorem d_O_sortAsks_60 : decode b_O_sortAsks 60 = .ok (.isub, 1) := by decide +kernel
theorem d_O_sortAsks_61 : decode b_O_sortAsks 61 = .ok (.iaload, 1) := by decide +kernel
theorem d_O_sortAsks_62 : decode b_O_sortAsks 62 = .ok (.iastore, 1) := by decide +kernel
theorem d_O_sortAsks_63 : decode b_O_sortAsks 63 = .ok (.iinc 3 (-1), 3) := by decide +kernel
theorem d_O_sortAsks_66 : decode b_O_sortAsks 66 = .ok (.goto (-44), 3) := by decide +kernel
theorem d_O_sortAsks_69 : decode b_O_sortAsks 69 = .ok (.aload_n 0, 1) := by decide +kernel
theorem d_O_sortAsks_70 : decode b_O_sortAsks 70 = .ok (.getfield 75, 3) := by decide +kernel
theorem d_O_sortAsks_73 : decode b_O_sortAsks 73 = .ok (.iload_n 3, 1) := by decide +kernel
theorem d_O_sortAsks_74 : decode b_O_sortAsks 74 = .ok (.iload_n 2, 1) := by decide +kernel
theorem d_O_sortAsks_75 : decode b_O_sortAsks 75 = .ok (.iastore, 1) := by decide +kernel
theorem d_O_sortAsks_76 : decode b_O_sortAsks 76 = .ok (.iinc 1 1, 3) := by decide +kernel
theorem d_O_sortAsks_79 : decode b_O_sortAsks 79 = .ok (.iinc 2 1, 3) := by decide +kernel
theorem d_O_sortAsks_82 : decode b_O_sortAsks 82 = .ok (.goto (-78), 3) := by decide +kernel
theorem d_O_sortAsks_85 : decode b_O_sortAsks 85 = .ok (.iload_n 1, 1) := by decide +kernel
theorem d_O_sortAsks_86 : decode b_O_sortAsks 86 = .ok (.ireturn, 1) := by decide +kernel
def w_O_sortAsks : List Cond := .code y_O_sortAsks b_O_sortAsks 4 (some .int) :: ([.fieldLink "PartShelvesModel" 85 "PartShelvesModel" "asks" "I", .methodLink "PartShelvesModel" 123 ⟨"PartShelvesModel", "isOpen", "(I)Z"⟩, .instanceMethod ⟨"PartShelvesModel", "isOpen", "(I)Z"⟩, .selects "PartShelvesModel" ⟨"PartShelvesModel", "isOpen", "(I)Z"⟩ ⟨"PartShelvesModel", "isOpen", "(I)Z"⟩, .initialized "PartShelvesModel", .code ⟨"PartShelvesModel", "isOpen", "(I)Z"⟩ prog_9_method_7_code 2 (some .boolean), .fieldLink "PartShelvesModel" 48 "PartShelvesModel" "served" "[Z", .fieldLink "PartShelvesModel" 45 "PartShelvesModel" "minutes" "[J", .fieldLink "PartShelvesModel" 75 "PartShelvesModel" "order" "[I"] ++ u_ws R_O F_O 36)
set_option maxRecDepth 20000 in
theorem g_O_sortAsks_isOpen : GoodIn w_O_sortAsks (wsV R_O 123 R_O y_O_isOpen w_O_isOpen) := goodIn_p _ [6] rfl (by decide +kernel)
set_option maxHeartbeats 4000000 in
set_option maxRecDepth 100000 in
theorem c_O_sort (l : Launch) (D : va_G) (kC : Nat → ClassId) (ad : Nat → Nat) (td : Nat) (rn : Nat) (pn : Nat) (an : Nat) (jn : Nat) (tn : Nat) (bm : Int32) (fw : Int64) (gp : Nat) (ga : Nat) (bp : Int32) (fc : Int64) (fj : Nat) (rA : Nat → Nat) (rC : Nat → Nat) (ft : Nat → Int32) (kd : Nat → Nat) (aG : Nat → Nat) (sR : Nat → Nat) (sT : Nat → Nat) (wh : Nat → Nat) (dY : Nat → Nat) (pd : Nat → Nat) (cN : Nat → Nat) (mN : Nat → Nat) (sv : Nat → Int32) (nd : Nat → Nat) (wr : Nat → Nat) (tl : Nat → Nat) (lt : Nat → Int32) (lT : Nat → Nat) (lD : Nat → Nat) (gv : Nat → Int32) (gn : Nat → Int64) (od : Nat → Nat) (br : Nat → Nat) (sz : Nat) (han : an ≤ 8) (hmN : ∀ j, mN j ≤ 1000000000) (hod : ∀ j, od j < 8) : Met l y_O_sortAsks w_O_sortAsks ({ frames := 1, cells := 0, slots := 0, locals := 24 } : Room) (gPre cls D (tyL kC) [.ref (ad 0)] (fl [(wO kC ad td rn pn an jn tn bm fw gp ga bp fc fj rA rC ft kd aG sR sT wh dY pd cN mN sv nd wr tl lt lT lD gv gn od br)]) sz) (gQi cls D (tyL kC) (fl [(wO kC ad td rn pn an jn tn bm fw gp ga bp fc fj rA rC ft kd aG sR sT wh dY pd cN mN sv nd wr tl lt lT lD gv gn od br)]) sz (nI (srN sv an)) (fl [(wO kC ad td rn pn an jn tn bm fw gp ga bp fc fj rA rC ft kd aG sR sT wh dY pd cN mN sv nd wr tl lt lT lD gv gn (srO sv mN od an) br)])) 0 0 (va_A (fl [(wO kC ad td rn pn an jn tn bm fw gp ga bp fc fj rA rC ft kd aG sR sT wh dY pd cN mN sv nd wr tl lt lT lD gv gn od br)]) sz) := by
  refine Met.ofW (cc := b_O_sortAsks) (maxL := 4) (ret := (some .int)) (by decide) rfl ?_
  intro p e s m args below meth c s₁ B hml hv
  obtain ⟨rfl, hsz, hP, hK, hD0⟩ := hv
  have hx := B.exec
  have hb := B.bytes
  have hr := B.returns
  have hts := atoms_spec (ws := w_O_sortAsks) B.pre
  have hown : s.vm.findClass R_O = some m.cls := findClass_of_methodNamed B.named
  have hlocks := B.notSynchronized
  subst hsz
  obtain ⟨A, hAe⟩ : ∃ A : Nat → Prop, A = va_A (fl [(wO kC ad td rn pn an jn tn bm fw gp ga bp fc fj rA rC ft kd aG sR sT wh dY pd cN mN sv nd wr tl lt lT lD gv gn od br)]) s.heap.size := ⟨_, rfl⟩
  have hD : va_D A (fl [(wO kC ad td rn pn an jn tn bm fw gp ga bp fc fj rA rC ft kd aG sR sT wh dY pd cN mN sv nd wr tl lt lT lD gv gn od br)]) := by rw [hAe]; exact hD0.self
  have hA : ∀ q : Nat, s.heap.size ≤ q → A q := fun q h => by rw [hAe]; exact Or.inr h
  have hS : va_S A s.heap s.heap [] := va_S.rf
  have hl := lv_entry ([.ref (ad 0)]) (n := 4) (Nat.le_of_ble_eq_true rfl)
  rw [lg_entry_eq]
  generalize (lg_sl ([.ref (ad 0)]) ++ List.replicate (4 - (lg_sl ([.ref (ad 0)])).length) Slot.unset).toArray = ls at hl ⊢
  have hl : lv_has ls 4 [(0, .ref (ad 0))] := hl
  refine lv_iconst (v := nI 0) hx hb d_O_sortAsks_0 (by decide) ?_
  refine lv_istore_n (lv' := [(1, .int (nI 0)), (0, .ref (ad 0))]) hx hb d_O_sortAsks_1 rfl hl (by decide) rfl (fun ls hl => ?_)
  refine lv_iconst (v := nI 0) hx hb d_O_sortAsks_2 (by decide) ?_
  refine lv_istore_n (lv' := [(2, .int (nI 0)), (1, .int (nI 0)), (0, .ref (ad 0))]) hx hb d_O_sortAsks_3 rfl hl (by decide) rfl (fun ls hl => ?_)
  have L4 : ∀ (n4 : Nat) (k : Nat), an - k < n4 → k ≤ an → ∀ (H : Heap) (locs : List Loc), va_P D cls (fl [(wO kC ad td rn pn an jn tn bm fw gp ga bp fc fj rA rC ft kd aG sR sT wh dY pd cN mN sv nd wr tl lt lT lD gv gn (srO sv mN od k) br)]) H → va_D A (fl [(wO kC ad td rn pn an jn tn bm fw gp ga bp fc fj rA rC ft kd aG sR sT wh dY pd cN mN sv nd wr tl lt lT lD gv gn (srO sv mN od k) br)]) → va_S A s.heap H locs → ∀ (ls : Array Slot), lv_has ls 4 [(0, .ref (ad 0)), (1, .int (nI (srN sv k))), (2, .int (nI k))] → W p l e (headSpec w_O_sortAsks ({ frames := 1, cells := 0, slots := 0, locals := 24 } : Room)).room s m ([.ref (ad 0)] : List Value).toArray below meth c H locs 0 0 (MQ below (gQi cls D (tyL kC) (fl [(wO kC ad td rn pn an jn tn bm fw gp ga bp fc fj rA rC ft kd aG sR sT wh dY pd cN mN sv nd wr tl lt lT lD gv gn od br)]) s.heap.size (nI (srN sv an)) (fl [(wO kC ad td rn pn an jn tn bm fw gp ga bp fc fj rA rC ft kd aG sR sT wh dY pd cN mN sv nd wr tl lt lT lD gv gn (srO sv mN od an) br)])) ([.ref (ad 0)] : List Value).toArray s 0 0 (va_A (fl [(wO kC ad td rn pn an jn tn bm fw gp ga bp fc fj rA rC ft kd aG sR sT wh dY pd cN mN sv nd wr tl lt lT lD gv gn od br)]) s.heap.size)) (F0 m 4 ls []) := by
    intro n4
    induction n4 with
    | zero =>
      intro k hm
      exact absurd hm (Nat.not_lt_zero _)
    | succ n4 ih4 =>
      intro k hm hka H locs hP hD hS ls hl
      refine lv_iload_n hx hb d_O_sortAsks_4 rfl (lv_at hl 2 rfl) ?_
      refine lv_aload_n hx hb d_O_sortAsks_5 rfl (lv_at hl 0 rfl) ?_
      refine fv_get (ci := 7) (v := .int (nI an)) (C := R_O) (T := F_O) (N := 36) hx hb hts (by decide +kernel) hown hK hP 0 0 rfl rfl rfl 12 (by decide) (hts (.fieldLink R_O 85 "PartShelvesModel" "asks" "I") (by decide +kernel)) (fun _ h9 => h9) rfl d_O_sortAsks_6 ?_
      refine nv_icmp_ge (tgt := 85) hx hb d_O_sortAsks_9 (by decide) (by omega) (by omega) (fun hk => ?_) (fun hk => ?_)
      · obtain rfl : an = k := by omega
        refine lv_iload_n hx hb d_O_sortAsks_85 rfl (lv_at hl 1 rfl) ?_
        exact W.iret (v := nI (srN sv an)) hx hb hr (fun t ht hW => by subst hAe; exact ⟨⟨(nI (srN sv an)), (), rfl, rfl, by rw [ht]; exact hP, va_K.moved hW.alike hK, hD⟩, hS.F ht⟩) (by subst hAe; exact hS.2.2) d_O_sortAsks_86
      · have hn := srN_le sv k
        have hO := srO_lt (sv := sv) (mN := mN) hod k (by omega)
        refine lv_aload_n hx hb d_O_sortAsks_12 rfl (lv_at hl 0 rfl) ?_
        refine lv_iload_n hx hb d_O_sortAsks_13 rfl (lv_at hl 2 rfl) ?_
        refine r_calli (W.runV (As := [.int (nI k)]) (rest := []) ⟨hx, hb, hml, hown, hts⟩ (c_O_isOpen l D kC ad td rn pn an jn tn bm fw gp ga bp fc fj rA rC ft kd aG sR sT wh dY pd cN mN sv nd wr tl lt lT lD gv gn (srO sv mN od k) br (nI k) (han)) (cwV 1 hts g_O_sortAsks_isOpen rfl rfl rfl (by decide +kernel) ⟨Nat.le_of_ble_eq_true rfl, Nat.le_of_ble_eq_true rfl⟩) (r_preV (f_recv (ci := 7) (q0 := 0) hK hP 0 rfl rfl rfl) hK hP) rfl rfl hl.1 rfl (lv_room (Nat.le_of_ble_eq_true rfl)) d_O_sortAsks_14 ⟨Nat.le_of_ble_eq_true rfl, Nat.le_of_ble_eq_true rfl⟩) ?_
        refine lv_if_eq (tgt := 79) hx hb d_O_sortAsks_17 (by decide) (fun h0 => ?_) (fun h0 => ?_)
        · have hs : ¬ sv k = 0 := fun q => bI_0.mp h0 ((opn_nI (by omega)).mpr ⟨hk, q⟩)
          have ew1 : (srO sv mN od k) = (srO sv mN od (k + 1)) := (if_neg hs).symm
          have hP : va_P D cls (fl [(wO kC ad td rn pn an jn tn bm fw gp ga bp fc fj rA rC ft kd aG sR sT wh dY pd cN mN sv nd wr tl lt lT lD gv gn (srO sv mN od (k + 1)) br)]) H := by rw [← ew1]; exact hP
          have hD : va_D A (fl [(wO kC ad td rn pn an jn tn bm fw gp ga bp fc fj rA rC ft kd aG sR sT wh dY pd cN mN sv nd wr tl lt lT lD gv gn (srO sv mN od (k + 1)) br)]) := by rw [← ew1]; exact hD
          have el2 : nI (srN sv k) = nI (srN sv (k + 1)) := congrArg nI (if_neg hs).symm
          have hl : lv_has ls 4 [(0, .ref (ad 0)), (1, .int (nI (srN sv (k + 1)))), (2, .int (nI k))] := by rw [← el2]; exact hl
          refine lv_iinc (v := nI (k + 1)) (lv' := [(2, .int (nI (k + 1))), (0, .ref (ad 0)), (1, .int (nI (srN sv (k + 1))))]) hx hb d_O_sortAsks_79 hl (k := 2) rfl (nI_1 k) (by decide) rfl (fun ls hl => ?_)
          refine lv_goto (tgt := 4) hx hb d_O_sortAsks_82 (by decide) ?_
          exact ih4 (k + 1) (by omega) (hk) _ _ hP hD hS ls (lv_sub hl [1, 2, 0] rfl)
        · have hs : sv k = 0 := ((opn_nI (by omega)).mp (bI_n0.mp h0)).2
          refine lv_iload_n hx hb d_O_sortAsks_20 rfl (lv_at hl 1 rfl) ?_
          refine lv_istore_n (lv' := [(3, .int (nI (srN sv k))), (0, .ref (ad 0)), (1, .int (nI (srN sv k))), (2, .int (nI k))]) hx hb d_O_sortAsks_21 rfl hl (by decide) rfl (fun ls hl => ?_)
          have L22 : ∀ (n22 : Nat) (b : Nat), b < n22 → b ≤ (srN sv k) → insP mN (srO sv mN od k) k b = insP mN (srO sv mN od k) k (srN sv k) → ∀ (H : Heap) (locs : List Loc), va_P D cls (fl [(wO kC ad td rn pn an jn tn bm fw gp ga bp fc fj rA rC ft kd aG sR sT wh dY pd cN mN sv nd wr tl lt lT lD gv gn (insS (srO sv mN od k) (srN sv k) b) br)]) H → va_D A (fl [(wO kC ad td rn pn an jn tn bm fw gp ga bp fc fj rA rC ft kd aG sR sT wh dY pd cN mN sv nd wr tl lt lT lD gv gn (insS (srO sv mN od k) (srN sv k) b) br)]) → va_S A s.heap H locs → ∀ (ls : Array Slot), lv_has ls 4 [(0, .ref (ad 0)), (1, .int (nI (srN sv k))), (2, .int (nI k)), (3, .int (nI b))] → W p l e (headSpec w_O_sortAsks ({ frames := 1, cells := 0, slots := 0, locals := 24 } : Room)).room s m ([.ref (ad 0)] : List Value).toArray below meth c H locs 0 0 (MQ below (gQi cls D (tyL kC) (fl [(wO kC ad td rn pn an jn tn bm fw gp ga bp fc fj rA rC ft kd aG sR sT wh dY pd cN mN sv nd wr tl lt lT lD gv gn od br)]) s.heap.size (nI (srN sv an)) (fl [(wO kC ad td rn pn an jn tn bm fw gp ga bp fc fj rA rC ft kd aG sR sT wh dY pd cN mN sv nd wr tl lt lT lD gv gn (srO sv mN od an) br)])) ([.ref (ad 0)] : List Value).toArray s 0 0 (va_A (fl [(wO kC ad td rn pn an jn tn bm fw gp ga bp fc fj rA rC ft kd aG sR sT wh dY pd cN mN sv nd wr tl lt lT lD gv gn od br)]) s.heap.size)) (F0 m 22 ls []) := by
            intro n22
            induction n22 with
            | zero =>
              intro b hm
              exact absurd hm (Nat.not_lt_zero _)
            | succ n22 ih22 =>
              intro b hm hbn hI H locs hP hD hS ls hl
              refine lv_iload_n hx hb d_O_sortAsks_22 rfl (lv_at hl 3 rfl) ?_
              refine nv_if_le (tgt := 69) hx hb d_O_sortAsks_23 (by decide) (by omega) (fun hb0 => ?_) (fun hb0 => ?_)
              · have hpb : insP mN (srO sv mN od k) k (srN sv k) = b := by rw [← hI, hb0]; rfl
                refine lv_aload_n hx hb d_O_sortAsks_69 rfl (lv_at hl 0 rfl) ?_
                refine fv_get (ci := 7) (v := .ref (ad 22)) (C := R_O) (T := F_O) (N := 36) hx hb hts (by decide +kernel) hown hK hP 0 0 rfl rfl rfl 34 (by decide) (hts (.fieldLink R_O 75 "PartShelvesModel" "order" "[I") (by decide +kernel)) (fun _ h9 => h9) rfl d_O_sortAsks_70 ?_
                refine lv_iload_n hx hb d_O_sortAsks_73 rfl (lv_at hl 3 rfl) ?_
                refine lv_iload_n hx hb d_O_sortAsks_74 rfl (lv_at hl 2 rfl) ?_
                refine fa_iastN hx hb hK hP hD hS 0 22 0 rfl rfl rfl (by omega) (by decide) d_O_sortAsks_75 (fun H locs hP hD hS => ?_)
                have hP : va_P D cls (fl [(wO kC ad td rn pn an jn tn bm fw gp ga bp fc fj rA rC ft kd aG sR sT wh dY pd cN mN sv nd wr tl lt lT lD gv gn (updN (insS (srO sv mN od k) (srN sv k) b) b k) br)]) H := hP
                have hD : va_D A (fl [(wO kC ad td rn pn an jn tn bm fw gp ga bp fc fj rA rC ft kd aG sR sT wh dY pd cN mN sv nd wr tl lt lT lD gv gn (updN (insS (srO sv mN od k) (srN sv k) b) b k) br)]) := hD
                refine lv_iinc (v := nI ((srN sv k) + 1)) (lv' := [(1, .int (nI ((srN sv k) + 1))), (0, .ref (ad 0)), (2, .int (nI k)), (3, .int (nI b))]) hx hb d_O_sortAsks_76 hl (k := 1) rfl (nI_1 (srN sv k)) (by decide) rfl (fun ls hl => ?_)
                have ew3 : (updN (insS (srO sv mN od k) (srN sv k) b) b k) = (srO sv mN od (k + 1)) := by rw [show srO sv mN od (k + 1) = _ from if_pos hs]; simp only [insO]; rw [hpb]
                have hP : va_P D cls (fl [(wO kC ad td rn pn an jn tn bm fw gp ga bp fc fj rA rC ft kd aG sR sT wh dY pd cN mN sv nd wr tl lt lT lD gv gn (srO sv mN od (k + 1)) br)]) H := by rw [← ew3]; exact hP
                have hD : va_D A (fl [(wO kC ad td rn pn an jn tn bm fw gp ga bp fc fj rA rC ft kd aG sR sT wh dY pd cN mN sv nd wr tl lt lT lD gv gn (srO sv mN od (k + 1)) br)]) := by rw [← ew3]; exact hD
                have el4 : nI ((srN sv k) + 1) = nI (srN sv (k + 1)) := congrArg nI (if_pos hs).symm
                have hl : lv_has ls 4 [(1, .int (nI (srN sv (k + 1)))), (0, .ref (ad 0)), (2, .int (nI k)), (3, .int (nI b))] := by rw [← el4]; exact hl
                refine lv_iinc (v := nI (k + 1)) (lv' := [(2, .int (nI (k + 1))), (1, .int (nI (srN sv (k + 1)))), (0, .ref (ad 0)), (3, .int (nI b))]) hx hb d_O_sortAsks_79 hl (k := 2) rfl (nI_1 k) (by decide) rfl (fun ls hl => ?_)
                refine lv_goto (tgt := 4) hx hb d_O_sortAsks_82 (by decide) ?_
                exact ih4 (k + 1) (by omega) (hk) _ _ hP hD hS ls (lv_sub hl [2, 1, 0] rfl)
              · refine lv_aload_n hx hb d_O_sortAsks_26 rfl (lv_at hl 0 rfl) ?_
                refine fv_get (ci := 7) (v := .ref (ad 12)) (C := R_O) (T := F_O) (N := 36) hx hb hts (by decide +kernel) hown hK hP 0 0 rfl rfl rfl 15 (by decide) (hts (.fieldLink R_O 45 "PartShelvesModel" "minutes" "[J") (by decide +kernel)) (fun _ h9 => h9) rfl d_O_sortAsks_27 ?_
                refine lv_aload_n hx hb d_O_sortAsks_30 rfl (lv_at hl 0 rfl) ?_
                refine fv_get (ci := 7) (v := .ref (ad 22)) (C := R_O) (T := F_O) (N := 36) hx hb hts (by decide +kernel) hown hK hP 0 0 rfl rfl rfl 34 (by decide) (hts (.fieldLink R_O 75 "PartShelvesModel" "order" "[I") (by decide +kernel)) (fun _ h9 => h9) rfl d_O_sortAsks_31 ?_
                refine lv_iload_n hx hb d_O_sortAsks_34 rfl (lv_at hl 3 rfl) ?_
                refine lv_iconst (v := nI 1) hx hb d_O_sortAsks_35 (by decide) ?_
                refine nv_isub hx hb d_O_sortAsks_36 (by omega) ?_
                refine fa_ialdN hx hb hK hP 0 22 0 rfl rfl rfl (by omega) (by decide) d_O_sortAsks_37 ?_
                refine nv_topi (y := nI ((srO sv mN od k) (b - 1))) (congrArg nI (insS_lt _ _ _ _ (by omega))) ?_
                refine fa_laldN hx hb hK hP 0 12 1 rfl rfl rfl (hO _) (by decide) d_O_sortAsks_38 ?_
                refine lv_aload_n hx hb d_O_sortAsks_39 rfl (lv_at hl 0 rfl) ?_
                refine fv_get (ci := 7) (v := .ref (ad 12)) (C := R_O) (T := F_O) (N := 36) hx hb hts (by decide +kernel) hown hK hP 0 0 rfl rfl rfl 15 (by decide) (hts (.fieldLink R_O 45 "PartShelvesModel" "minutes" "[J") (by decide +kernel)) (fun _ h9 => h9) rfl d_O_sortAsks_40 ?_
                refine lv_iload_n hx hb d_O_sortAsks_43 rfl (lv_at hl 2 rfl) ?_
                refine fa_laldN hx hb hK hP 0 12 1 rfl rfl rfl (by omega) (by decide) d_O_sortAsks_44 ?_
                refine lc_le (tgt := 69) hx hb d_O_sortAsks_45 d_O_sortAsks_46 (by decide) (fun hc => ?_) (fun hc => ?_)
                · have hpb : insP mN (srO sv mN od k) k (srN sv k) = b := by
                    obtain ⟨b2, rfl⟩ : ∃ b2, b = b2 + 1 := ⟨b - 1, by omega⟩
                    rw [← hI]; exact if_neg (Nat.not_lt.mpr ((lN_le (by have := hmN ((srO sv mN od k) (b2 + 1 - 1)); omega) (by have := hmN k; omega)).mp hc))
                  refine lv_aload_n hx hb d_O_sortAsks_69 rfl (lv_at hl 0 rfl) ?_
                  refine fv_get (ci := 7) (v := .ref (ad 22)) (C := R_O) (T := F_O) (N := 36) hx hb hts (by decide +kernel) hown hK hP 0 0 rfl rfl rfl 34 (by decide) (hts (.fieldLink R_O 75 "PartShelvesModel" "order" "[I") (by decide +kernel)) (fun _ h9 => h9) rfl d_O_sortAsks_70 ?_
                  refine lv_iload_n hx hb d_O_sortAsks_73 rfl (lv_at hl 3 rfl) ?_
                  refine lv_iload_n hx hb d_O_sortAsks_74 rfl (lv_at hl 2 rfl) ?_
                  refine fa_iastN hx hb hK hP hD hS 0 22 0 rfl rfl rfl (by omega) (by decide) d_O_sortAsks_75 (fun H locs hP hD hS => ?_)
                  have hP : va_P D cls (fl [(wO kC ad td rn pn an jn tn bm fw gp ga bp fc fj rA rC ft kd aG sR sT wh dY pd cN mN sv nd wr tl lt lT lD gv gn (updN (insS (srO sv mN od k) (srN sv k) b) b k) br)]) H := hP
                  have hD : va_D A (fl [(wO kC ad td rn pn an jn tn bm fw gp ga bp fc fj rA rC ft kd aG sR sT wh dY pd cN mN sv nd wr tl lt lT lD gv gn (updN (insS (srO sv mN od k) (srN sv k) b) b k) br)]) := hD
                  refine lv_iinc (v := nI ((srN sv k) + 1)) (lv' := [(1, .int (nI ((srN sv k) + 1))), (0, .ref (ad 0)), (2, .int (nI k)), (3, .int (nI b))]) hx hb d_O_sortAsks_76 hl (k := 1) rfl (nI_1 (srN sv k)) (by decide) rfl (fun ls hl => ?_)
                  have ew5 : (updN (insS (srO sv mN od k) (srN sv k) b) b k) = (srO sv mN od (k + 1)) := by rw [show srO sv mN od (k + 1) = _ from if_pos hs]; simp only [insO]; rw [hpb]
                  have hP : va_P D cls (fl [(wO kC ad td rn pn an jn tn bm fw gp ga bp fc fj rA rC ft kd aG sR sT wh dY pd cN mN sv nd wr tl lt lT lD gv gn (srO sv mN od (k + 1)) br)]) H := by rw [← ew5]; exact hP
                  have hD : va_D A (fl [(wO kC ad td rn pn an jn tn bm fw gp ga bp fc fj rA rC ft kd aG sR sT wh dY pd cN mN sv nd wr tl lt lT lD gv gn (srO sv mN od (k + 1)) br)]) := by rw [← ew5]; exact hD
                  have el6 : nI ((srN sv k) + 1) = nI (srN sv (k + 1)) := congrArg nI (if_pos hs).symm
                  have hl : lv_has ls 4 [(1, .int (nI (srN sv (k + 1)))), (0, .ref (ad 0)), (2, .int (nI k)), (3, .int (nI b))] := by rw [← el6]; exact hl
                  refine lv_iinc (v := nI (k + 1)) (lv' := [(2, .int (nI (k + 1))), (1, .int (nI (srN sv (k + 1)))), (0, .ref (ad 0)), (3, .int (nI b))]) hx hb d_O_sortAsks_79 hl (k := 2) rfl (nI_1 k) (by decide) rfl (fun ls hl => ?_)
                  refine lv_goto (tgt := 4) hx hb d_O_sortAsks_82 (by decide) ?_
                  exact ih4 (k + 1) (by omega) (hk) _ _ hP hD hS ls (lv_sub hl [2, 1, 0] rfl)
                · refine lv_aload_n hx hb d_O_sortAsks_49 rfl (lv_at hl 0 rfl) ?_
                  refine fv_get (ci := 7) (v := .ref (ad 22)) (C := R_O) (T := F_O) (N := 36) hx hb hts (by decide +kernel) hown hK hP 0 0 rfl rfl rfl 34 (by decide) (hts (.fieldLink R_O 75 "PartShelvesModel" "order" "[I") (by decide +kernel)) (fun _ h9 => h9) rfl d_O_sortAsks_50 ?_
                  refine lv_iload_n hx hb d_O_sortAsks_53 rfl (lv_at hl 3 rfl) ?_
                  refine lv_aload_n hx hb d_O_sortAsks_54 rfl (lv_at hl 0 rfl) ?_
                  refine fv_get (ci := 7) (v := .ref (ad 22)) (C := R_O) (T := F_O) (N := 36) hx hb hts (by decide +kernel) hown hK hP 0 0 rfl rfl rfl 34 (by decide) (hts (.fieldLink R_O 75 "PartShelvesModel" "order" "[I") (by decide +kernel)) (fun _ h9 => h9) rfl d_O_sortAsks_55 ?_
                  refine lv_iload_n hx hb d_O_sortAsks_58 rfl (lv_at hl 3 rfl) ?_
                  refine lv_iconst (v := nI 1) hx hb d_O_sortAsks_59 (by decide) ?_
                  refine nv_isub hx hb d_O_sortAsks_60 (by omega) ?_
                  refine fa_ialdN hx hb hK hP 0 22 0 rfl rfl rfl (by omega) (by decide) d_O_sortAsks_61 ?_
                  refine nv_topi (y := nI ((srO sv mN od k) (b - 1))) (congrArg nI (insS_lt _ _ _ _ (by omega))) ?_
                  refine fa_iastN hx hb hK hP hD hS 0 22 0 rfl rfl rfl (by omega) (by decide) d_O_sortAsks_62 (fun H locs hP hD hS => ?_)
                  have hP : va_P D cls (fl [(wO kC ad td rn pn an jn tn bm fw gp ga bp fc fj rA rC ft kd aG sR sT wh dY pd cN mN sv nd wr tl lt lT lD gv gn (updN (insS (srO sv mN od k) (srN sv k) b) b ((srO sv mN od k) (b - 1))) br)]) H := hP
                  have hD : va_D A (fl [(wO kC ad td rn pn an jn tn bm fw gp ga bp fc fj rA rC ft kd aG sR sT wh dY pd cN mN sv nd wr tl lt lT lD gv gn (updN (insS (srO sv mN od k) (srN sv k) b) b ((srO sv mN od k) (b - 1))) br)]) := hD
                  refine lv_iinc (v := nI (b - 1)) (lv' := [(3, .int (nI (b - 1))), (0, .ref (ad 0)), (1, .int (nI (srN sv k))), (2, .int (nI k))]) hx hb d_O_sortAsks_63 hl (k := 3) rfl (m1_i hb0) (by decide) rfl (fun ls hl => ?_)
                  refine lv_goto (tgt := 22) hx hb d_O_sortAsks_66 (by decide) ?_
                  have ew7 : (updN (insS (srO sv mN od k) (srN sv k) b) b ((srO sv mN od k) (b - 1))) = (insS (srO sv mN od k) (srN sv k) (b - 1)) := insS_s _ _ _ hb0 hbn
                  have hP : va_P D cls (fl [(wO kC ad td rn pn an jn tn bm fw gp ga bp fc fj rA rC ft kd aG sR sT wh dY pd cN mN sv nd wr tl lt lT lD gv gn (insS (srO sv mN od k) (srN sv k) (b - 1)) br)]) H := by rw [← ew7]; exact hP
                  have hD : va_D A (fl [(wO kC ad td rn pn an jn tn bm fw gp ga bp fc fj rA rC ft kd aG sR sT wh dY pd cN mN sv nd wr tl lt lT lD gv gn (insS (srO sv mN od k) (srN sv k) (b - 1)) br)]) := by rw [← ew7]; exact hD
                  exact ih22 (b - 1) (by omega) (by omega) (by rw [← hI]; obtain ⟨b2, rfl⟩ : ∃ b2, b = b2 + 1 := ⟨b - 1, by omega⟩; exact (if_pos (Nat.lt_of_not_le (fun q => hc ((lN_le (by have := hmN ((srO sv mN od k) (b2 + 1 - 1)); omega) (by have := hmN k; omega)).mpr q)))).symm) _ _ hP hD hS ls (lv_sub hl [1, 2, 3, 0] rfl)
          have ew8 : (srO sv mN od k) = (insS (srO sv mN od k) (srN sv k) (srN sv k)) := (insS_n _ _).symm
          have hP : va_P D cls (fl [(wO kC ad td rn pn an jn tn bm fw gp ga bp fc fj rA rC ft kd aG sR sT wh dY pd cN mN sv nd wr tl lt lT lD gv gn (insS (srO sv mN od k) (srN sv k) (srN sv k)) br)]) H := by rw [← ew8]; exact hP
          have hD : va_D A (fl [(wO kC ad td rn pn an jn tn bm fw gp ga bp fc fj rA rC ft kd aG sR sT wh dY pd cN mN sv nd wr tl lt lT lD gv gn (insS (srO sv mN od k) (srN sv k) (srN sv k)) br)]) := by rw [← ew8]; exact hD
          exact L22 _ (srN sv k) (Nat.lt_succ_self _) (Nat.le_refl _) (rfl) _ _ hP hD hS ls (lv_sub hl [1, 2, 3, 0] rfl)
  exact L4 _ 0 (Nat.lt_succ_self _) (Nat.zero_le _) _ _ hP hD hS ls (lv_sub hl [2, 1, 0] rfl)

abbrev b_O_greatest : ByteArray := prog_9_method_20_code
def y_O_greatest : MethodName := ⟨"PartShelvesModel", "greatest", "(III)J"⟩
theorem d_O_greatest_0 : decode b_O_greatest 0 = .ok (.iconst 0, 1) := by decide +kernel
theorem d_O_greatest_1 : decode b_O_greatest 1 = .ok (.istore 4, 2) := by decide +kernel
theorem d_O_greatest_3 : decode b_O_greatest 3 = .ok (.iload 4, 2) := by decide +kernel
theorem d_O_greatest_5 : decode b_O_greatest 5 = .ok (.sipush 256, 3) := by decide +kernel
theorem d_O_greatest_8 : decode b_O_greatest 8 = .ok (.if_icmp .ge 23, 3) := by decide +kernel
theorem d_O_greatest_11 : decode b_O_greatest 11 = .ok (.aload_n 0, 1) := by decide +kernel
theorem d_O_greatest_12 : decode b_O_greatest 12 = .ok (.getfield 78, 3) := by decide +kernel
theorem d_O_greatest_15 : decode b_O_greatest 15 = .ok (.sipush 256, 3) := by decide +kernel
theorem d_O_greatest_18 : decode b_O_greatest 18 = .ok (.iload_n 1, 1) := by decide +kernel
theorem d_O_greatest_19 : decode b_O_greatest 19 = .ok (.imul, 1) := by decide +kernel
theorem d_O_greatest_20 : decode b_O_greatest 20 = .ok (.iload 4, 2) := by decide +kernel
theorem d_O_greatest_22 : decode b_O_greatest 22 = .ok (.iadd, 1) := by decide +kernel
theorem d_O_greatest_23 : decode b_O_greatest 23 = .ok (.lconst 0, 1) := by decide +kernel
theorem d_O_greatest_24 : decode b_O_greatest 24 = .ok (.lastore, 1) := by decide +kernel
theorem d_O_greatest_25 : decode b_O_greatest 25 = .ok (.iinc 4 1, 3) := by decide +kernel
theorem d_O_greatest_28 : decode b_O_greatest 28 = .ok (.goto (-25), 3) := by decide +kernel
theorem d_O_greatest_31 : decode b_O_greatest 31 = .ok (.iload_n 1, 1) := by decide +kernel
theorem d_O_greatest_32 : decode b_O_greatest 32 = .ok (.iconst 1, 1) := by decide +kernel
theorem d_O_greatest_33 : decode b_O_greatest 33 = .ok (.isub, 1) := by decide +kernel
theorem d_O_greatest_34 : decode b_O_greatest 34 = .ok (.istore 4, 2) := by decide +kernel
theorem d_O_greatest_36 : decode b_O_greatest 36 = .ok (.iload 4, 2) := by decide +kernel
theorem d_O_greatest_38 : decode b_O_greatest 38 = .ok (.ifCond .lt 199, 3) := by decide +kernel
theorem d_O_greatest_41 : decode b_O_greatest 41 = .ok (.iconst 0, 1) := by decide +kernel
theorem d_O_greatest_42 : decode b_O_greatest 42 = .ok (.istore 5, 2) := by decide +kernel
theorem d_O_greatest_44 : decode b_O_greatest 44 = .ok (.iload 5, 2) := by decide +kernel
theorem d_O_greatest_46 : decode b_O_greatest 46 = .ok (.sipush 256, 3) := by decide +kernel
theorem d_O_greatest_49 : decode b_O_greatest 49 = .ok (.if_icmp .ge 182, 3) := by decide +kernel
theorem d_O_greatest_52 : decode b_O_greatest 52 = .ok (.aload_n 0, 1) := by decide +kernel
theorem d_O_greatest_53 : decode b_O_greatest 53 = .ok (.getfield 78, 3) := by decide +kernel
theorem d_O_greatest_56 : decode b_O_greatest 56 = .ok (.sipush 256, 3) := by decide +kernel
theorem d_O_greatest_59 : decode b_O_greatest 59 = .ok (.iload 4, 2) := by decide +kernel
theorem d_O_greatest_61 : decode b_O_greatest 61 = .ok (.iconst 1, 1) := by decide +kernel
theorem d_O_greatest_62 : decode b_O_greatest 62 = .ok (.iadd, 1) := by decide +kernel
theorem d_O_greatest_63 : decode b_O_greatest 63 = .ok (.imul, 1) := by decide +kernel
theorem d_O_greatest_64 : decode b_O_greatest 64 = .ok (.iload 5, 2) := by decide +kernel
theorem d_O_greatest_66 : decode b_O_greatest 66 = .ok (.iadd, 1) := by decide +kernel
theorem d_O_greatest_67 : decode b_O_greatest 67 = .ok (.laload, 1) := by decide +kernel
theorem d_O_greatest_68 : decode b_O_greatest 68 = .ok (.lstore 6, 2) := by decide +kernel
theorem d_O_greatest_70 : decode b_O_greatest 70 = .ok (.iconst 0, 1) := by decide +kernel
theorem d_O_greatest_71 : decode b_O_greatest 71 = .ok (.istore 8, 2) := by decide +kernel
theorem d_O_greatest_73 : decode b_O_greatest 73 = .ok (.iload 8, 2) := by decide +kernel
theorem d_O_greatest_75 : decode b_O_greatest 75 = .ok (.aload_n 0, 1) := by decide +kernel
theorem d_O_greatest_76 : decode b_O_greatest 76 = .ok (.getfield 81, 3) := by decide +kernel
theorem d_O_greatest_79 : decode b_O_greatest 79 = .ok (.if_icmp .ge 130, 3) := by decide +kernel
theorem d_O_greatest_82 : decode b_O_greatest 82 = .ok (.aload_n 0, 1) := by decide +kernel
theorem d_O_greatest_83 : decode b_O_greatest 83 = .ok (.getfield 75, 3) := by decide +kernel
theorem d_O_greatest_86 : decode b_O_greatest 86 = .ok (.iload 4, 2) := by decide +kernel
theorem d_O_greatest_88 : decode b_O_greatest 88 = .ok (.iaload, 1) := by decide +kernel
theorem d_O_greatest_89 : decode b_O_greatest 89 = .ok (.iload_n 3, 1) := by decide +kernel
theorem d_O_greatest_90 : decode b_O_greatest 90 = .ok (.if_icmp .eq 119, 3) := by decide +kernel
theorem d_O_greatest_93 : decode b_O_greatest 93 = .ok (.iload 5, 2) := by decide +kernel
theorem d_O_greatest_95 : decode b_O_greatest 95 = .ok (.iload 8, 2) := by decide +kernel
theorem d_O_greatest_97 : decode b_O_greatest 97 = .ok (.ishr, 1) := by decide +kernel
theorem d_O_greatest_98 : decode b_O_greatest 98 = .ok (.iconst 1, 1) := by decide +kernel
theorem d_O_greatest_99 : decode b_O_greatest 99 = .ok (.iand, 1) := by decide +kernel
theorem d_O_greatest_100 : decode b_O_greatest 100 = .ok (.ifCond .ne 29, 3) := by decide +kernel
theorem d_O_greatest_103 : decode b_O_greatest 103 = .ok (.iload 8, 2) := by decide +kernel
theorem d_O_greatest_105 : decode b_O_greatest 105 = .ok (.iload_n 2, 1) := by decide +kernel
theorem d_O_greatest_106 : decode b_O_greatest 106 = .ok (.if_icmp .eq 23, 3) := by decide +kernel
theorem d_O_greatest_109 : decode b_O_greatest 109 = .ok (.aload_n 0, 1) := by decide +kernel
theorem d_O_greatest_110 : decode b_O_greatest 110 = .ok (.iload 8, 2) := by decide +kernel
theorem d_O_greatest_112 : decode b_O_greatest 112 = .ok (.aload_n 0, 1) := by decide +kernel
theorem d_O_greatest_113 : decode b_O_greatest 113 = .ok (.getfield 75, 3) := by decide +kernel
theorem d_O_greatest_116 : decode b_O_greatest 116 = .ok (.iload 4, 2) := by decide +kernel
theorem d_O_greatest_118 : decode b_O_greatest 118 = .ok (.iaload, 1) := by decide +kernel
theorem d_O_greatest_119 : decode b_O_greatest 119 = .ok (.invokevirtual 126, 3) := by decide +kernel
theorem d_O_greatest_122 : decode b_O_greatest 122 = .ok (.ifCond .eq 7, 3) := by decide +kernel
theorem d_O_greatest_125 : decode b_O_greatest 125 = .ok (.iconst 1, 1) := by decide +kernel
theorem d_O_greatest_126 : decode b_O_greatest 126 = .ok (.goto 4, 3) := by decide +kernel
theorem d_O_greatest_129 : decode b_O_greatest 129 = .ok (.iconst 0, 1) := by decide +kernel
theorem d_O_greatest_130 : decode b_O_greatest 130 = .ok (.istore 9, 2) := by decide +kernel
theorem d_O_greatest_132 : decode b_O_greatest 132 = .ok (.iload 9, 2) := by decide +kernel
theorem d_O_greatest_134 : decode b_O_greatest 134 = .ok (.ifCond .eq 47, 3) := by decide +kernel
theorem d_O_greatest_137 : decode b_O_greatest 137 = .ok (.aload_n 0, 1) := by decide +kernel
theorem d_O_greatest_138 : decode b_O_greatest 138 = .ok (.getfield 42, 3) := by decide +kernel
theorem d_O_greatest_141 : decode b_O_greatest 141 = .ok (.aload_n 0, 1) := by decide +kernel
theorem d_O_greatest_142 : decode b_O_greatest 142 = .ok (.getfield 75, 3) := by decide +kernel
theorem d_O_greatest_145 : decode b_O_greatest 145 = .ok (.iload 4, 2) := by decide +kernel
theorem d_O_greatest_147 : decode b_O_greatest 147 = .ok (.iaload, 1) := by decide +kernel
theorem d_O_greatest_148 : decode b_O_greatest 148 = .ok (.laload, 1) := by decide +kernel
theorem d_O_greatest_149 : decode b_O_greatest 149 = .ok (.aload_n 0, 1) := by decide +kernel
theorem d_O_greatest_150 : decode b_O_greatest 150 = .ok (.iload 8, 2) := by decide +kernel
theorem d_O_greatest_152 : decode b_O_greatest 152 = .ok (.invokevirtual 111, 3) := by decide +kernel
theorem d_O_greatest_155 : decode b_O_greatest 155 = .ok (.lsub, 1) := by decide +kernel
theorem d_O_greatest_156 : decode b_O_greatest 156 = .ok (.aload_n 0, 1) := by decide +kernel
theorem d_O_greatest_157 : decode b_O_greatest 157 = .ok (.getfield 78, 3) := by decide +kernel
theorem d_O_greatest_160 : decode b_O_greatest 160 = .ok (.sipush 256, 3) := by decide +kernel
theorem d_O_greatest_163 : decode b_O_greatest 163 = .ok (.iload 4, 2) := by decide +kernel
theorem d_O_greatest_165 : decode b_O_greatest 165 = .ok (.iconst 1, 1) := by decide +kernel
theorem d_O_greatest_166 : decode b_O_greatest 166 = .ok (.iadd, 1) := by decide +kernel
theorem d_O_greatest_167 : decode b_O_greatest 167 = .ok (.imul, 1) := by decide +kernel
theorem d_O_greatest_168 : decode b_O_greatest 168 = .ok (.iload 5, 2) := by decide +kernel
theorem d_O_greatest_170 : decode b_O_greatest 170 = .ok (.iconst 1, 1) := by decide +kernel
theorem d_O_greatest_171 : decode b_O_greatest 171 = .ok (.iload 8, 2) := by decide +kernel
theorem d_O_greatest_173 : decode b_O_greatest 173 = .ok (.ishl, 1) := by decide +kernel
theorem d_O_greatest_174 : decode b_O_greatest 174 = .ok (.ior, 1) := by decide +kernel
theorem d_O_greatest_175 : decode b_O_greatest 175 = .ok (.iadd, 1) := by decide +kernel
theorem d_O_greatest_176 : decode b_O_greatest 176 = .ok (.laload, 1) := by decide +kernel
theorem d_O_greatest_177 : decode b_O_greatest 177 = .ok (.ladd, 1) := by decide +kernel
theorem d_O_greatest_178 : decode b_O_greatest 178 = .ok (.goto 6, 3) := by decide +kernel
theorem d_O_greatest_181 : decode b_O_greatest 181 = .ok (.ldc2_w 115, 3) := by decide +kernel
theorem d_O_greatest_184 : decode b_O_greatest 184 = .ok (.lstore 10, 2) := by decide +kernel
theorem d_O_greatest_186 : decode b_O_greatest 186 = .ok (.lload 10, 2) := by decide +kernel
theorem d_O_greatest_188 : decode b_O_greatest 188 = .ok (.lload 6, 2) := by decide +kernel
theorem d_O_greatest_190 : decode b_O_greatest 190 = .ok (.lcmp, 1) := by decide +kernel
theorem d_O_greatest_191 : decode b_O_greatest 191 = .ok (.ifCond .le 8, 3) := by decide +kernel
theorem d_O_greatest_194 : decode b_O_greatest 194 = .ok (.lload 10, 2) := by decide +kernel
theorem d_O_greatest_196 : decode b_O_greatest 196 = .ok (.goto 5, 3) := by decide +kernel
theorem d_O_greatest_199 : decode b_O_greatest 199 = .ok (.lload 6, 2) := by decide +kernel
theorem d_O_greatest_201 : decode b_O_greatest 201 = .ok (.lstore 6, 2) := by decide +kernel
theorem d_O_greatest_203 : decode b_O_greatest 203 = .ok (.iinc 8 1, 3) := by decide +kernel
theorem d_O_greatest_206 : decode b_O_greatest 206 = .ok (.goto (-133), 3) := by decide +kernel
theorem d_O_greatest_209 : decode b_O_greatest 209 = .ok (.aload_n 0, 1) := by decide +kernel
theorem d_O_greatest_210 : decode b_O_greatest 210 = .ok (.getfield 78, 3) := by decide +kernel
theorem d_O_greatest_213 : decode b_O_greatest 213 = .ok (.sipush 256, 3) := by decide +kernel
theorem d_O_greatest_216 : decode b_O_greatest 216 = .ok (.iload 4, 2) := by decide +kernel
theorem d_O_greatest_218 : decode b_O_greatest 218 = .ok (.imul, 1) := by decide +kernel
theorem d_O_greatest_219 : decode b_O_greatest 219 = .ok (.iload 5, 2) := by decide +kernel
theorem d_O_greatest_221 : decode b_O_greatest 221 = .ok (.iadd, 1) := by decide +kernel
theorem d_O_greatest_222 : decode b_O_greatest 222 = .ok (.lload 6, 2) := by decide +kernel
theorem d_O_greatest_224 : decode b_O_greatest 224 = .ok (.lastore, 1) := by decide +kernel
theorem d_O_greatest_225 : decode b_O_greatest 225 = .ok (.iinc 5 1, 3) := by decide +kernel
theorem d_O_greatest_228 : decode b_O_greatest 228 = .ok (.goto (-184), 3) := by decide +kernel
theorem d_O_greatest_231 : decode b_O_greatest 231 = .ok (.iinc 4 (-1), 3) := by decide +kernel
theorem d_O_greatest_234 : decode b_O_greatest 234 = .ok (.goto (-198), 3) := by decide +kernel
theorem d_O_greatest_237 : decode b_O_greatest 237 = .ok (.aload_n 0, 1) := by decide +kernel
theorem d_O_greatest_238 : decode b_O_greatest 238 = .ok (.getfield 78, 3) := by decide +kernel
theorem d_O_greatest_241 : decode b_O_greatest 241 = .ok (.iconst 0, 1) := by decide +kernel
theorem d_O_greatest_242 : decode b_O_greatest 242 = .ok (.laload, 1) := by decide +kernel
theorem d_O_greatest_243 : decode b_O_greatest 243 = .ok (.lreturn, 1) := by decide +kernel
def w_O_greatest : List Cond := .code y_O_greatest b_O_greatest 12 (some .long) :: ([.fieldLink "PartShelvesModel" 78 "PartShelvesModel" "brings" "[J", .fieldLink "PartShelvesModel" 81 "PartShelvesModel" "parts" "I", .fieldLink "PartShelvesModel" 75 "PartShelvesModel" "order" "[I", .methodLink "PartShelvesModel" 126 ⟨"PartShelvesModel", "isPair", "(II)Z"⟩, .instanceMethod ⟨"PartShelvesModel", "isPair", "(II)Z"⟩, .selects "PartShelvesModel" ⟨"PartShelvesModel", "isPair", "(II)Z"⟩ ⟨"PartShelvesModel", "isPair", "(II)Z"⟩, .initialized "PartShelvesModel", .code ⟨"PartShelvesModel", "isPair", "(II)Z"⟩ prog_9_method_18_code 4 (some .boolean), .methodLink "PartShelvesModel" 117 ⟨"PartShelvesModel", "stateOf", "(I)I"⟩, .instanceMethod ⟨"PartShelvesModel", "stateOf", "(I)I"⟩, .selects "PartShelvesModel" ⟨"PartShelvesModel", "stateOf", "(I)I"⟩ ⟨"PartShelvesModel", "stateOf", "(I)I"⟩, .code ⟨"PartShelvesModel", "stateOf", "(I)I"⟩ prog_9_method_14_code 2 (some .int), .fieldLink "PartShelvesModel" 30 "PartShelvesModel" "states" "[I", .fieldLink "PartShelvesModel" 36 "PartShelvesModel" "days" "[I", .fieldLink "PartShelvesModel" 88 "PartShelvesModel" "today" "I", .fieldLink "PartShelvesModel" 33 "PartShelvesModel" "whose" "[I", .methodLink "PartShelvesModel" 123 ⟨"PartShelvesModel", "isOpen", "(I)Z"⟩, .instanceMethod ⟨"PartShelvesModel", "isOpen", "(I)Z"⟩, .selects "PartShelvesModel" ⟨"PartShelvesModel", "isOpen", "(I)Z"⟩ ⟨"PartShelvesModel", "isOpen", "(I)Z"⟩, .code ⟨"PartShelvesModel", "isOpen", "(I)Z"⟩ prog_9_method_7_code 2 (some .boolean), .fieldLink "PartShelvesModel" 85 "PartShelvesModel" "asks" "I", .fieldLink "PartShelvesModel" 48 "PartShelvesModel" "served" "[Z", .fieldLink "PartShelvesModel" 17 "PartShelvesModel" "fits" "[Z", .fieldLink "PartShelvesModel" 21 "PartShelvesModel" "kinds" "[I", .fieldLink "PartShelvesModel" 39 "PartShelvesModel" "products" "[I", .fieldLink "PartShelvesModel" 42 "PartShelvesModel" "cents" "[J", .methodLink "PartShelvesModel" 111 ⟨"PartShelvesModel", "priceOf", "(I)J"⟩, .instanceMethod ⟨"PartShelvesModel", "priceOf", "(I)J"⟩, .selects "PartShelvesModel" ⟨"PartShelvesModel", "priceOf", "(I)J"⟩ ⟨"PartShelvesModel", "priceOf", "(I)J"⟩, .code ⟨"PartShelvesModel", "priceOf", "(I)J"⟩ prog_9_method_12_code 5 (some .long), .fieldLink "PartShelvesModel" 97 "PartShelvesModel" "rows" "I", .fieldLink "PartShelvesModel" 7 "PartShelvesModel" "rowAges" "[I", .fieldLink "PartShelvesModel" 24 "PartShelvesModel" "ages" "[I", .fieldLink "PartShelvesModel" 13 "PartShelvesModel" "rowCents" "[J", .constantLong "PartShelvesModel" 115 (-1)] ++ u_ws R_O F_O 36)
set_option maxRecDepth 20000 in
theorem g_O_greatest_isPair : GoodIn w_O_greatest (wsV R_O 126 R_O y_O_isPair w_O_isPair) := goodIn_p _ [8, 12, 20, 30] rfl (by decide +kernel)
set_option maxRecDepth 20000 in
theorem g_O_greatest_priceOf : GoodIn w_O_greatest (wsV R_O 111 R_O y_O_priceOf w_O_priceOf) := goodIn_p _ [30] rfl (by decide +kernel)
set_option maxHeartbeats 4000000 in
set_option maxRecDepth 100000 in
theorem c_O_great (l : Launch) (D : va_G) (kC : Nat → ClassId) (ad : Nat → Nat) (td : Nat) (rn : Nat) (pn : Nat) (an : Nat) (jn : Nat) (tn : Nat) (bm : Int32) (fw : Int64) (gp : Nat) (ga : Nat) (bp : Int32) (fc : Int64) (fj : Nat) (rA : Nat → Nat) (rC : Nat → Nat) (ft : Nat → Int32) (kd : Nat → Nat) (aG : Nat → Nat) (sR : Nat → Nat) (sT : Nat → Nat) (wh : Nat → Nat) (dY : Nat → Nat) (pd : Nat → Nat) (cN : Nat → Nat) (mN : Nat → Nat) (sv : Nat → Int32) (nd : Nat → Nat) (wr : Nat → Nat) (tl : Nat → Nat) (lt : Nat → Int32) (lT : Nat → Nat) (lD : Nat → Nat) (gv : Nat → Int32) (gn : Nat → Int64) (od : Nat → Nat) (br : Nat → Nat) (n : Nat) (x : Int32) (y : Int32) (w : Nat → Nat → Option Nat) (sz : Nat) (hn : n ≤ 8) (han : an ≤ 8) (hpn : pn ≤ 8) (hsT : ∀ j, sT j ≤ 3) (hdY : ∀ j, dY j ≤ 100000) (htd : td ≤ 100000) (hrn : rn ≤ 6) (hrA : ∀ j, rA j ≤ 1000) (haG : ∀ j, aG j ≤ 1000) (hkd : ∀ j, kd j < 6) (hpd : ∀ j, pd j < 6) (hcN : ∀ j, cN j ≤ 1000000) (hrC : ∀ j, rC j ≤ 100000) (hwh : ∀ j, wh j < 10) (hod : ∀ j, od j < 8) (hw : ∀ i q, i < n → q < pn → w i q = if nI (od i) = y then none else if ¬ nI q = x ∧ prsO td rn an rA rC ft kd aG sT wh dY pd cN sv q (od i) then some (cN (od i) - prM rA rC (aG q) rn) else none) (hwb : ∀ i q v, w i q = some v → v ≤ 1000000) : Met l y_O_greatest w_O_greatest ({ frames := 2, cells := 0, slots := 0, locals := 47 } : Room) (gPre cls D (tyL kC) [.ref (ad 0), .int (nI n), .int x, .int y] (fl [(wO kC ad td rn pn an jn tn bm fw gp ga bp fc fj rA rC ft kd aG sR sT wh dY pd cN mN sv nd wr tl lt lT lD gv gn od br)]) sz) (gQl cls D (tyL kC) (fl [(wO kC ad td rn pn an jn tn bm fw gp ga bp fc fj rA rC ft kd aG sR sT wh dY pd cN mN sv nd wr tl lt lT lD gv gn od br)]) sz (lN (gO w pn n n 0)) (fl [(wO kC ad td rn pn an jn tn bm fw gp ga bp fc fj rA rC ft kd aG sR sT wh dY pd cN mN sv nd wr tl lt lT lD gv gn od (brF w pn n br n))])) 0 0 (va_A (fl [(wO kC ad td rn pn an jn tn bm fw gp ga bp fc fj rA rC ft kd aG sR sT wh dY pd cN mN sv nd wr tl lt lT lD gv gn od br)]) sz) := by
  refine Met.ofW (cc := b_O_greatest) (maxL := 12) (ret := (some .long)) (by decide) rfl ?_
  intro p e s m args below meth c s₁ B hml hv
  obtain ⟨rfl, hsz, hP, hK, hD0⟩ := hv
  have hx := B.exec
  have hb := B.bytes
  have hr := B.returns
  have hts := atoms_spec (ws := w_O_greatest) B.pre
  have hown : s.vm.findClass R_O = some m.cls := findClass_of_methodNamed B.named
  have hlocks := B.notSynchronized
  subst hsz
  obtain ⟨A, hAe⟩ : ∃ A : Nat → Prop, A = va_A (fl [(wO kC ad td rn pn an jn tn bm fw gp ga bp fc fj rA rC ft kd aG sR sT wh dY pd cN mN sv nd wr tl lt lT lD gv gn od br)]) s.heap.size := ⟨_, rfl⟩
  have hD : va_D A (fl [(wO kC ad td rn pn an jn tn bm fw gp ga bp fc fj rA rC ft kd aG sR sT wh dY pd cN mN sv nd wr tl lt lT lD gv gn od br)]) := by rw [hAe]; exact hD0.self
  have hA : ∀ q : Nat, s.heap.size ≤ q → A q := fun q h => by rw [hAe]; exact Or.inr h
  have hS : va_S A s.heap s.heap [] := va_S.rf
  have hl := lv_entry ([.ref (ad 0), .int (nI n), .int x, .int y]) (n := 12) (Nat.le_of_ble_eq_true rfl)
  rw [lg_entry_eq]
  generalize (lg_sl ([.ref (ad 0), .int (nI n), .int x, .int y]) ++ List.replicate (12 - (lg_sl ([.ref (ad 0), .int (nI n), .int x, .int y])).length) Slot.unset).toArray = ls at hl ⊢
  have hl : lv_has ls 12 [(0, .ref (ad 0)), (1, .int (nI n)), (2, .int x), (3, .int y)] := hl
  refine lv_iconst (v := nI 0) hx hb d_O_greatest_0 (by decide) ?_
  refine lv_istore (lv' := [(4, .int (nI 0)), (0, .ref (ad 0)), (1, .int (nI n)), (2, .int x), (3, .int y)]) hx hb d_O_greatest_1 hl (by decide) rfl (fun ls hl => ?_)
  have L3 : ∀ (n3 : Nat) (t : Nat), 256 - t < n3 → t ≤ 256 → ∀ (H : Heap) (locs : List Loc), va_P D cls (fl [(wO kC ad td rn pn an jn tn bm fw gp ga bp fc fj rA rC ft kd aG sR sT wh dY pd cN mN sv nd wr tl lt lT lD gv gn od (brZ n br t))]) H → va_D A (fl [(wO kC ad td rn pn an jn tn bm fw gp ga bp fc fj rA rC ft kd aG sR sT wh dY pd cN mN sv nd wr tl lt lT lD gv gn od (brZ n br t))]) → va_S A s.heap H locs → ∀ (ls : Array Slot), lv_has ls 12 [(0, .ref (ad 0)), (1, .int (nI n)), (2, .int x), (3, .int y), (4, .int (nI t))] → W p l e (headSpec w_O_greatest ({ frames := 2, cells := 0, slots := 0, locals := 47 } : Room)).room s m ([.ref (ad 0), .int (nI n), .int x, .int y] : List Value).toArray below meth c H locs 0 0 (MQ below (gQl cls D (tyL kC) (fl [(wO kC ad td rn pn an jn tn bm fw gp ga bp fc fj rA rC ft kd aG sR sT wh dY pd cN mN sv nd wr tl lt lT lD gv gn od br)]) s.heap.size (lN (gO w pn n n 0)) (fl [(wO kC ad td rn pn an jn tn bm fw gp ga bp fc fj rA rC ft kd aG sR sT wh dY pd cN mN sv nd wr tl lt lT lD gv gn od (brF w pn n br n))])) ([.ref (ad 0), .int (nI n), .int x, .int y] : List Value).toArray s 0 0 (va_A (fl [(wO kC ad td rn pn an jn tn bm fw gp ga bp fc fj rA rC ft kd aG sR sT wh dY pd cN mN sv nd wr tl lt lT lD gv gn od br)]) s.heap.size)) (F0 m 3 ls []) := by
    intro n3
    induction n3 with
    | zero =>
      intro t hm
      exact absurd hm (Nat.not_lt_zero _)
    | succ n3 ih3 =>
      intro t hm htt H locs hP hD hS ls hl
      refine lv_iload hx hb d_O_greatest_3 (lv_at hl 4 rfl) ?_
      refine lv_sipush (v := nI 256) hx hb d_O_greatest_5 (by decide +kernel) ?_
      refine nv_icmp_ge (tgt := 31) hx hb d_O_greatest_8 (by decide) (by omega) (by omega) (fun ht => ?_) (fun ht => ?_)
      · obtain rfl : t = 256 := by omega
        refine lv_iload_n hx hb d_O_greatest_31 rfl (lv_at hl 1 rfl) ?_
        refine lv_iconst (v := nI 1) hx hb d_O_greatest_32 (by decide) ?_
        refine lv_isub hx hb d_O_greatest_33 ?_
        refine lv_istore (lv' := [(4, .int ((nI n) - (nI 1))), (0, .ref (ad 0)), (1, .int (nI n)), (2, .int x), (3, .int y)]) hx hb d_O_greatest_34 hl (by decide) rfl (fun ls hl => ?_)
        have L36 : ∀ (n36 : Nat) (k : Nat) (r : Nat), k < n36 → k + r = n → ∀ (H : Heap) (locs : List Loc), va_P D cls (fl [(wO kC ad td rn pn an jn tn bm fw gp ga bp fc fj rA rC ft kd aG sR sT wh dY pd cN mN sv nd wr tl lt lT lD gv gn od (brF w pn n br r))]) H → va_D A (fl [(wO kC ad td rn pn an jn tn bm fw gp ga bp fc fj rA rC ft kd aG sR sT wh dY pd cN mN sv nd wr tl lt lT lD gv gn od (brF w pn n br r))]) → va_S A s.heap H locs → ∀ (ls : Array Slot), lv_has ls 12 [(0, .ref (ad 0)), (1, .int (nI n)), (2, .int x), (3, .int y), (4, .int (nI k - nI 1))] → W p l e (headSpec w_O_greatest ({ frames := 2, cells := 0, slots := 0, locals := 47 } : Room)).room s m ([.ref (ad 0), .int (nI n), .int x, .int y] : List Value).toArray below meth c H locs 0 0 (MQ below (gQl cls D (tyL kC) (fl [(wO kC ad td rn pn an jn tn bm fw gp ga bp fc fj rA rC ft kd aG sR sT wh dY pd cN mN sv nd wr tl lt lT lD gv gn od br)]) s.heap.size (lN (gO w pn n n 0)) (fl [(wO kC ad td rn pn an jn tn bm fw gp ga bp fc fj rA rC ft kd aG sR sT wh dY pd cN mN sv nd wr tl lt lT lD gv gn od (brF w pn n br n))])) ([.ref (ad 0), .int (nI n), .int x, .int y] : List Value).toArray s 0 0 (va_A (fl [(wO kC ad td rn pn an jn tn bm fw gp ga bp fc fj rA rC ft kd aG sR sT wh dY pd cN mN sv nd wr tl lt lT lD gv gn od br)]) s.heap.size)) (F0 m 36 ls []) := by
          intro n36
          induction n36 with
          | zero =>
            intro k r hm
            exact absurd hm (Nat.not_lt_zero _)
          | succ n36 ih36 =>
            intro k r hm hkr H locs hP hD hS ls hl
            refine lv_iload hx hb d_O_greatest_36 (lv_at hl 4 rfl) ?_
            refine lv_if_lt (tgt := 237) hx hb d_O_greatest_38 (by decide) (fun hk => ?_) (fun hk => ?_)
            · obtain rfl : k = 0 := (rk_neg (by omega)).mp hk
              obtain rfl : n = r := by omega
              refine lv_aload_n hx hb d_O_greatest_237 rfl (lv_at hl 0 rfl) ?_
              refine fv_get (ci := 7) (v := .ref (ad 23)) (C := R_O) (T := F_O) (N := 36) hx hb hts (by decide +kernel) hown hK hP 0 0 rfl rfl rfl 35 (by decide) (hts (.fieldLink R_O 78 "PartShelvesModel" "brings" "[J") (by decide +kernel)) (fun _ h9 => h9) rfl d_O_greatest_238 ?_
              refine lv_iconst (v := nI 0) hx hb d_O_greatest_241 (by decide) ?_
              refine fa_laldN hx hb hK hP 0 23 1 rfl rfl rfl (by omega) (by decide) d_O_greatest_242 ?_
              refine nv_topl (y := lN (gO w pn n n 0)) (congrArg lN ((brF_at w pn n br 0 0 (Nat.zero_le _) (by decide)).trans (by rw [Nat.sub_zero]))) ?_
              exact W.lret (v := lN (gO w pn n n 0)) hx hb hr (fun t ht hW => by subst hAe; exact ⟨⟨(lN (gO w pn n n 0)), (), rfl, rfl, by rw [ht]; exact hP, va_K.moved hW.alike hK, hD⟩, hS.F ht⟩) (by subst hAe; exact hS.2.2) d_O_greatest_243
            · obtain ⟨i, rfl⟩ := rk_pos (by omega) hk
              obtain rfl : i = n - 1 - r := by omega
              have el1 : nI (n - 1 - r + 1) - nI 1 = nI (n - 1 - r) := nI_pred _
              have hl : lv_has ls 12 [(0, .ref (ad 0)), (1, .int (nI n)), (2, .int x), (3, .int y), (4, .int (nI (n - 1 - r)))] := by rw [← el1]; exact hl
              refine lv_iconst (v := nI 0) hx hb d_O_greatest_41 (by decide) ?_
              refine lv_istore (lv' := [(5, .int (nI 0)), (0, .ref (ad 0)), (1, .int (nI n)), (2, .int x), (3, .int y), (4, .int (nI (n - 1 - r)))]) hx hb d_O_greatest_42 hl (by decide) rfl (fun ls hl => ?_)
              have L44 : ∀ (n44 : Nat) (t : Nat), 256 - t < n44 → t ≤ 256 → ∀ (H : Heap) (locs : List Loc), va_P D cls (fl [(wO kC ad td rn pn an jn tn bm fw gp ga bp fc fj rA rC ft kd aG sR sT wh dY pd cN mN sv nd wr tl lt lT lD gv gn od (brP w pn n br r t))]) H → va_D A (fl [(wO kC ad td rn pn an jn tn bm fw gp ga bp fc fj rA rC ft kd aG sR sT wh dY pd cN mN sv nd wr tl lt lT lD gv gn od (brP w pn n br r t))]) → va_S A s.heap H locs → ∀ (ls : Array Slot), lv_has ls 12 [(0, .ref (ad 0)), (1, .int (nI n)), (2, .int x), (3, .int y), (4, .int (nI (n - 1 - r))), (5, .int (nI t))] → W p l e (headSpec w_O_greatest ({ frames := 2, cells := 0, slots := 0, locals := 47 } : Room)).room s m ([.ref (ad 0), .int (nI n), .int x, .int y] : List Value).toArray below meth c H locs 0 0 (MQ below (gQl cls D (tyL kC) (fl [(wO kC ad td rn pn an jn tn bm fw gp ga bp fc fj rA rC ft kd aG sR sT wh dY pd cN mN sv nd wr tl lt lT lD gv gn od br)]) s.heap.size (lN (gO w pn n n 0)) (fl [(wO kC ad td rn pn an jn tn bm fw gp ga bp fc fj rA rC ft kd aG sR sT wh dY pd cN mN sv nd wr tl lt lT lD gv gn od (brF w pn n br n))])) ([.ref (ad 0), .int (nI n), .int x, .int y] : List Value).toArray s 0 0 (va_A (fl [(wO kC ad td rn pn an jn tn bm fw gp ga bp fc fj rA rC ft kd aG sR sT wh dY pd cN mN sv nd wr tl lt lT lD gv gn od br)]) s.heap.size)) (F0 m 44 ls []) := by
                intro n44
                induction n44 with
                | zero =>
                  intro t hm
                  exact absurd hm (Nat.not_lt_zero _)
                | succ n44 ih44 =>
                  intro t hm htt H locs hP hD hS ls hl
                  refine lv_iload hx hb d_O_greatest_44 (lv_at hl 5 rfl) ?_
                  refine lv_sipush (v := nI 256) hx hb d_O_greatest_46 (by decide +kernel) ?_
                  refine nv_icmp_ge (tgt := 231) hx hb d_O_greatest_49 (by decide) (by omega) (by omega) (fun ht => ?_) (fun ht => ?_)
                  · obtain rfl : t = 256 := by omega
                    refine lv_iinc (v := (nI (n - 1 - r)) - nI 1) (lv' := [(4, .int ((nI (n - 1 - r)) - nI 1)), (0, .ref (ad 0)), (1, .int (nI n)), (2, .int x), (3, .int y), (5, .int (nI 256))]) hx hb d_O_greatest_231 hl (k := 4) rfl (by rw [Int32.sub_eq_add_neg]; rfl) (by decide) rfl (fun ls hl => ?_)
                    refine lv_goto (tgt := 36) hx hb d_O_greatest_234 (by decide) ?_
                    have ew2 : (brP w pn n br r 256) = (brF w pn n br (r + 1)) := brP_e w pn n br r (by omega)
                    have hP : va_P D cls (fl [(wO kC ad td rn pn an jn tn bm fw gp ga bp fc fj rA rC ft kd aG sR sT wh dY pd cN mN sv nd wr tl lt lT lD gv gn od (brF w pn n br (r + 1)))]) H := by rw [← ew2]; exact hP
                    have hD : va_D A (fl [(wO kC ad td rn pn an jn tn bm fw gp ga bp fc fj rA rC ft kd aG sR sT wh dY pd cN mN sv nd wr tl lt lT lD gv gn od (brF w pn n br (r + 1)))]) := by rw [← ew2]; exact hD
                    exact ih36 (n - 1 - r) (r + 1) (by omega) (by omega) _ _ hP hD hS ls (lv_sub hl [1, 2, 3, 4, 0] rfl)
                  · refine lv_aload_n hx hb d_O_greatest_52 rfl (lv_at hl 0 rfl) ?_
                    refine fv_get (ci := 7) (v := .ref (ad 23)) (C := R_O) (T := F_O) (N := 36) hx hb hts (by decide +kernel) hown hK hP 0 0 rfl rfl rfl 35 (by decide) (hts (.fieldLink R_O 78 "PartShelvesModel" "brings" "[J") (by decide +kernel)) (fun _ h9 => h9) rfl d_O_greatest_53 ?_
                    refine lv_sipush (v := nI 256) hx hb d_O_greatest_56 (by decide +kernel) ?_
                    refine lv_iload hx hb d_O_greatest_59 (lv_at hl 4 rfl) ?_
                    refine lv_iconst (v := nI 1) hx hb d_O_greatest_61 (by decide) ?_
                    refine nv_iadd hx hb d_O_greatest_62 ?_
                    refine nv_imul hx hb d_O_greatest_63 ?_
                    refine lv_iload hx hb d_O_greatest_64 (lv_at hl 5 rfl) ?_
                    refine nv_iadd hx hb d_O_greatest_66 ?_
                    refine fa_laldN hx hb hK hP 0 23 1 rfl rfl rfl (by omega) (by decide) d_O_greatest_67 ?_
                    refine nv_topl (y := lN (rwG (w (n - 1 - r)) (gO w pn n r) t 0)) (congrArg lN (brP_up w pn n br r t t (by omega) ht (by omega))) ?_
                    refine lv_lstore (lv' := [(6, .long (lN (rwG (w (n - 1 - r)) (gO w pn n r) t 0))), (0, .ref (ad 0)), (1, .int (nI n)), (2, .int x), (3, .int y), (4, .int (nI (n - 1 - r))), (5, .int (nI t))]) hx hb d_O_greatest_68 hl (by decide) rfl (fun ls hl => ?_)
                    refine lv_iconst (v := nI 0) hx hb d_O_greatest_70 (by decide) ?_
                    refine lv_istore (lv' := [(8, .int (nI 0)), (6, .long (lN (rwG (w (n - 1 - r)) (gO w pn n r) t 0))), (0, .ref (ad 0)), (1, .int (nI n)), (2, .int x), (3, .int y), (4, .int (nI (n - 1 - r))), (5, .int (nI t))]) hx hb d_O_greatest_71 hl (by decide) rfl (fun ls hl => ?_)
                    have L73 : ∀ (n73 : Nat) (q : Nat), pn - q < n73 → q ≤ pn → ∀ (H : Heap) (locs : List Loc), va_P D cls (fl [(wO kC ad td rn pn an jn tn bm fw gp ga bp fc fj rA rC ft kd aG sR sT wh dY pd cN mN sv nd wr tl lt lT lD gv gn od (brP w pn n br r t))]) H → va_D A (fl [(wO kC ad td rn pn an jn tn bm fw gp ga bp fc fj rA rC ft kd aG sR sT wh dY pd cN mN sv nd wr tl lt lT lD gv gn od (brP w pn n br r t))]) → va_S A s.heap H locs → ∀ (ls : Array Slot), lv_has ls 12 [(0, .ref (ad 0)), (1, .int (nI n)), (2, .int x), (3, .int y), (4, .int (nI (n - 1 - r))), (5, .int (nI t)), (6, .long (lN (rwG (w (n - 1 - r)) (gO w pn n r) t q))), (8, .int (nI q))] → W p l e (headSpec w_O_greatest ({ frames := 2, cells := 0, slots := 0, locals := 47 } : Room)).room s m ([.ref (ad 0), .int (nI n), .int x, .int y] : List Value).toArray below meth c H locs 0 0 (MQ below (gQl cls D (tyL kC) (fl [(wO kC ad td rn pn an jn tn bm fw gp ga bp fc fj rA rC ft kd aG sR sT wh dY pd cN mN sv nd wr tl lt lT lD gv gn od br)]) s.heap.size (lN (gO w pn n n 0)) (fl [(wO kC ad td rn pn an jn tn bm fw gp ga bp fc fj rA rC ft kd aG sR sT wh dY pd cN mN sv nd wr tl lt lT lD gv gn od (brF w pn n br n))])) ([.ref (ad 0), .int (nI n), .int x, .int y] : List Value).toArray s 0 0 (va_A (fl [(wO kC ad td rn pn an jn tn bm fw gp ga bp fc fj rA rC ft kd aG sR sT wh dY pd cN mN sv nd wr tl lt lT lD gv gn od br)]) s.heap.size)) (F0 m 73 ls []) := by
                      intro n73
                      induction n73 with
                      | zero =>
                        intro q hm
                        exact absurd hm (Nat.not_lt_zero _)
                      | succ n73 ih73 =>
                        intro q hm hqp H locs hP hD hS ls hl
                        refine lv_iload hx hb d_O_greatest_73 (lv_at hl 7 rfl) ?_
                        refine lv_aload_n hx hb d_O_greatest_75 rfl (lv_at hl 0 rfl) ?_
                        refine fv_get (ci := 7) (v := .int (nI pn)) (C := R_O) (T := F_O) (N := 36) hx hb hts (by decide +kernel) hown hK hP 0 0 rfl rfl rfl 5 (by decide) (hts (.fieldLink R_O 81 "PartShelvesModel" "parts" "I") (by decide +kernel)) (fun _ h9 => h9) rfl d_O_greatest_76 ?_
                        refine nv_icmp_ge (tgt := 209) hx hb d_O_greatest_79 (by decide) (by omega) (by omega) (fun hq => ?_) (fun hq => ?_)
                        · obtain rfl : pn = q := by omega
                          refine lv_aload_n hx hb d_O_greatest_209 rfl (lv_at hl 0 rfl) ?_
                          refine fv_get (ci := 7) (v := .ref (ad 23)) (C := R_O) (T := F_O) (N := 36) hx hb hts (by decide +kernel) hown hK hP 0 0 rfl rfl rfl 35 (by decide) (hts (.fieldLink R_O 78 "PartShelvesModel" "brings" "[J") (by decide +kernel)) (fun _ h9 => h9) rfl d_O_greatest_210 ?_
                          refine lv_sipush (v := nI 256) hx hb d_O_greatest_213 (by decide +kernel) ?_
                          refine lv_iload hx hb d_O_greatest_216 (lv_at hl 4 rfl) ?_
                          refine nv_imul hx hb d_O_greatest_218 ?_
                          refine lv_iload hx hb d_O_greatest_219 (lv_at hl 5 rfl) ?_
                          refine nv_iadd hx hb d_O_greatest_221 ?_
                          refine lv_lload hx hb d_O_greatest_222 (lv_at hl 6 rfl) ?_
                          refine fa_lastN hx hb hK hP hD hS 0 23 1 rfl rfl rfl (by omega) (by decide) d_O_greatest_224 (fun H locs hP hD hS => ?_)
                          have hP : va_P D cls (fl [(wO kC ad td rn pn an jn tn bm fw gp ga bp fc fj rA rC ft kd aG sR sT wh dY pd cN mN sv nd wr tl lt lT lD gv gn od (updN (brP w pn n br r t) (256 * (n - 1 - r) + t) (rwG (w (n - 1 - r)) (gO w pn n r) t pn)))]) H := hP
                          have hD : va_D A (fl [(wO kC ad td rn pn an jn tn bm fw gp ga bp fc fj rA rC ft kd aG sR sT wh dY pd cN mN sv nd wr tl lt lT lD gv gn od (updN (brP w pn n br r t) (256 * (n - 1 - r) + t) (rwG (w (n - 1 - r)) (gO w pn n r) t pn)))]) := hD
                          refine lv_iinc (v := nI (t + 1)) (lv' := [(5, .int (nI (t + 1))), (0, .ref (ad 0)), (1, .int (nI n)), (2, .int x), (3, .int y), (4, .int (nI (n - 1 - r))), (6, .long (lN (rwG (w (n - 1 - r)) (gO w pn n r) t pn))), (8, .int (nI pn))]) hx hb d_O_greatest_225 hl (k := 5) rfl (nI_1 t) (by decide) rfl (fun ls hl => ?_)
                          refine lv_goto (tgt := 44) hx hb d_O_greatest_228 (by decide) ?_
                          have ew3 : (updN (brP w pn n br r t) (256 * (n - 1 - r) + t) (rwG (w (n - 1 - r)) (gO w pn n r) t pn)) = (brP w pn n br r (t + 1)) := brP_s w pn n br r t
                          have hP : va_P D cls (fl [(wO kC ad td rn pn an jn tn bm fw gp ga bp fc fj rA rC ft kd aG sR sT wh dY pd cN mN sv nd wr tl lt lT lD gv gn od (brP w pn n br r (t + 1)))]) H := by rw [← ew3]; exact hP
                          have hD : va_D A (fl [(wO kC ad td rn pn an jn tn bm fw gp ga bp fc fj rA rC ft kd aG sR sT wh dY pd cN mN sv nd wr tl lt lT lD gv gn od (brP w pn n br r (t + 1)))]) := by rw [← ew3]; exact hD
                          exact ih44 (t + 1) (by omega) (ht) _ _ hP hD hS ls (lv_sub hl [1, 2, 3, 4, 5, 0] rfl)
                        · refine lv_aload_n hx hb d_O_greatest_82 rfl (lv_at hl 0 rfl) ?_
                          refine fv_get (ci := 7) (v := .ref (ad 22)) (C := R_O) (T := F_O) (N := 36) hx hb hts (by decide +kernel) hown hK hP 0 0 rfl rfl rfl 34 (by decide) (hts (.fieldLink R_O 75 "PartShelvesModel" "order" "[I") (by decide +kernel)) (fun _ h9 => h9) rfl d_O_greatest_83 ?_
                          refine lv_iload hx hb d_O_greatest_86 (lv_at hl 4 rfl) ?_
                          refine fa_ialdN hx hb hK hP 0 22 0 rfl rfl rfl (by omega) (by decide) d_O_greatest_88 ?_
                          refine lv_iload_n hx hb d_O_greatest_89 rfl (lv_at hl 3 rfl) ?_
                          refine lv_icmp_eq (tgt := 209) hx hb d_O_greatest_90 (by decide) (fun hy => ?_) (fun hy => ?_)
                          · have hrow : ∀ z, z ≤ pn → rwG (w (n - 1 - r)) (gO w pn n r) t z = gO w pn n r t := fun z => by
                              induction z with
                              | zero => exact fun _ => rfl
                              | succ z ih => intro hz; have h := hw (n - 1 - r) z (by omega) (by omega); rw [if_pos hy] at h; simp only [rwG, h]; exact ih (by omega)
                            have el4 : lN (rwG (w (n - 1 - r)) (gO w pn n r) t q) = lN (rwG (w (n - 1 - r)) (gO w pn n r) t pn) := by rw [hrow q hqp, hrow pn (Nat.le_refl _)]
                            have hl : lv_has ls 12 [(0, .ref (ad 0)), (1, .int (nI n)), (2, .int x), (3, .int y), (4, .int (nI (n - 1 - r))), (5, .int (nI t)), (6, .long (lN (rwG (w (n - 1 - r)) (gO w pn n r) t pn))), (8, .int (nI q))] := by rw [← el4]; exact hl
                            refine lv_aload_n hx hb d_O_greatest_209 rfl (lv_at hl 0 rfl) ?_
                            refine fv_get (ci := 7) (v := .ref (ad 23)) (C := R_O) (T := F_O) (N := 36) hx hb hts (by decide +kernel) hown hK hP 0 0 rfl rfl rfl 35 (by decide) (hts (.fieldLink R_O 78 "PartShelvesModel" "brings" "[J") (by decide +kernel)) (fun _ h9 => h9) rfl d_O_greatest_210 ?_
                            refine lv_sipush (v := nI 256) hx hb d_O_greatest_213 (by decide +kernel) ?_
                            refine lv_iload hx hb d_O_greatest_216 (lv_at hl 4 rfl) ?_
                            refine nv_imul hx hb d_O_greatest_218 ?_
                            refine lv_iload hx hb d_O_greatest_219 (lv_at hl 5 rfl) ?_
                            refine nv_iadd hx hb d_O_greatest_221 ?_
                            refine lv_lload hx hb d_O_greatest_222 (lv_at hl 6 rfl) ?_
                            refine fa_lastN hx hb hK hP hD hS 0 23 1 rfl rfl rfl (by omega) (by decide) d_O_greatest_224 (fun H locs hP hD hS => ?_)
                            have hP : va_P D cls (fl [(wO kC ad td rn pn an jn tn bm fw gp ga bp fc fj rA rC ft kd aG sR sT wh dY pd cN mN sv nd wr tl lt lT lD gv gn od (updN (brP w pn n br r t) (256 * (n - 1 - r) + t) (rwG (w (n - 1 - r)) (gO w pn n r) t pn)))]) H := hP
                            have hD : va_D A (fl [(wO kC ad td rn pn an jn tn bm fw gp ga bp fc fj rA rC ft kd aG sR sT wh dY pd cN mN sv nd wr tl lt lT lD gv gn od (updN (brP w pn n br r t) (256 * (n - 1 - r) + t) (rwG (w (n - 1 - r)) (gO w pn n r) t pn)))]) := hD
                            refine lv_iinc (v := nI (t + 1)) (lv' := [(5, .int (nI (t + 1))), (0, .ref (ad 0)), (1, .int (nI n)), (2, .int x), (3, .int y), (4, .int (nI (n - 1 - r))), (6, .long (lN (rwG (w (n - 1 - r)) (gO w pn n r) t pn))), (8, .int (nI q))]) hx hb d_O_greatest_225 hl (k := 5) rfl (nI_1 t) (by decide) rfl (fun ls hl => ?_)
                            refine lv_goto (tgt := 44) hx hb d_O_greatest_228 (by decide) ?_
                            have ew5 : (updN (brP w pn n br r t) (256 * (n - 1 - r) + t) (rwG (w (n - 1 - r)) (gO w pn n r) t pn)) = (brP w pn n br r (t + 1)) := brP_s w pn n br r t
                            have hP : va_P D cls (fl [(wO kC ad td rn pn an jn tn bm fw gp ga bp fc fj rA rC ft kd aG sR sT wh dY pd cN mN sv nd wr tl lt lT lD gv gn od (brP w pn n br r (t + 1)))]) H := by rw [← ew5]; exact hP
                            have hD : va_D A (fl [(wO kC ad td rn pn an jn tn bm fw gp ga bp fc fj rA rC ft kd aG sR sT wh dY pd cN mN sv nd wr tl lt lT lD gv gn od (brP w pn n br r (t + 1)))]) := by rw [← ew5]; exact hD
                            exact ih44 (t + 1) (by omega) (ht) _ _ hP hD hS ls (lv_sub hl [1, 2, 3, 4, 5, 0] rfl)
                          · have hwq := hw (n - 1 - r) q (by omega) hq
                            rw [if_neg hy] at hwq
                            refine lv_iload hx hb d_O_greatest_93 (lv_at hl 5 rfl) ?_
                            refine lv_iload hx hb d_O_greatest_95 (lv_at hl 7 rfl) ?_
                            refine lv_ishr hx hb d_O_greatest_97 ?_
                            refine lv_iconst (v := nI 1) hx hb d_O_greatest_98 (by decide) ?_
                            refine lv_iand hx hb d_O_greatest_99 ?_
                            refine nv_topi (y := nI (t / 2 ^ q % 2)) (bitI (by omega) (by omega)) ?_
                            refine nv_if_ne (tgt := 129) hx hb d_O_greatest_100 (by decide) (by omega) (fun hbit => ?_) (fun hbit => ?_)
                            · refine lv_iconst (v := nI 0) hx hb d_O_greatest_129 (by decide) ?_
                              refine lv_istore (lv' := [(9, .int (nI 0)), (0, .ref (ad 0)), (1, .int (nI n)), (2, .int x), (3, .int y), (4, .int (nI (n - 1 - r))), (5, .int (nI t)), (6, .long (lN (rwG (w (n - 1 - r)) (gO w pn n r) t q))), (8, .int (nI q))]) hx hb d_O_greatest_130 hl (by decide) rfl (fun ls hl => ?_)
                              refine lv_iload hx hb d_O_greatest_132 (lv_at hl 0 rfl) ?_
                              refine nv_if_eq (tgt := 181) hx hb d_O_greatest_134 (by decide) (by decide) (fun c6 => ?_) (fun c6 => ?_)
                              · refine lv_ldc2 (v := (-1)) hx hb hown (hts (.constantLong R_O 115 (-1)) (by decide +kernel)) d_O_greatest_181 ?_
                                refine lv_lstore (lv' := [(10, .long (-1)), (9, .int (nI 0)), (0, .ref (ad 0)), (1, .int (nI n)), (2, .int x), (3, .int y), (4, .int (nI (n - 1 - r))), (5, .int (nI t)), (6, .long (lN (rwG (w (n - 1 - r)) (gO w pn n r) t q))), (8, .int (nI q))]) hx hb d_O_greatest_184 hl (by decide) rfl (fun ls hl => ?_)
                                refine lv_lload hx hb d_O_greatest_186 (lv_at hl 0 rfl) ?_
                                refine lv_lload hx hb d_O_greatest_188 (lv_at hl 8 rfl) ?_
                                refine lc_le (tgt := 199) hx hb d_O_greatest_190 d_O_greatest_191 (by decide) (fun hc => ?_) (fun hc => ?_)
                                · refine lv_lload hx hb d_O_greatest_199 (lv_at hl 8 rfl) ?_
                                  refine lv_lstore (lv' := [(6, .long (lN (rwG (w (n - 1 - r)) (gO w pn n r) t q))), (10, .long (-1)), (9, .int (nI 0)), (0, .ref (ad 0)), (1, .int (nI n)), (2, .int x), (3, .int y), (4, .int (nI (n - 1 - r))), (5, .int (nI t)), (8, .int (nI q))]) hx hb d_O_greatest_201 hl (by decide) rfl (fun ls hl => ?_)
                                  have el7 : lN (rwG (w (n - 1 - r)) (gO w pn n r) t q) = lN (rwG (w (n - 1 - r)) (gO w pn n r) t (q + 1)) := congrArg lN (by simp only [rwG]; first | (rw [if_neg (fun z => by first | exact z.1 hx0 | exact bI_0.mp hpr z.2)] at hwq; rw [hwq]) | (split; exact (if_neg hbit).symm; rfl))
                                  have hl : lv_has ls 12 [(6, .long (lN (rwG (w (n - 1 - r)) (gO w pn n r) t (q + 1)))), (10, .long (-1)), (9, .int (nI 0)), (0, .ref (ad 0)), (1, .int (nI n)), (2, .int x), (3, .int y), (4, .int (nI (n - 1 - r))), (5, .int (nI t)), (8, .int (nI q))] := by rw [← el7]; exact hl
                                  refine lv_iinc (v := nI (q + 1)) (lv' := [(8, .int (nI (q + 1))), (6, .long (lN (rwG (w (n - 1 - r)) (gO w pn n r) t (q + 1)))), (10, .long (-1)), (9, .int (nI 0)), (0, .ref (ad 0)), (1, .int (nI n)), (2, .int x), (3, .int y), (4, .int (nI (n - 1 - r))), (5, .int (nI t))]) hx hb d_O_greatest_203 hl (k := 9) rfl (nI_1 q) (by decide) rfl (fun ls hl => ?_)
                                  refine lv_goto (tgt := 73) hx hb d_O_greatest_206 (by decide) ?_
                                  exact ih73 (q + 1) (by omega) (hq) _ _ hP hD hS ls (lv_sub hl [4, 5, 6, 7, 8, 9, 1, 0] rfl)
                                · exact absurd (m1_leN (Nat.lt_of_le_of_lt (rwG_le (fun z => gO_le hwb r z) (fun q v h => hwb _ q v h) t q) (by omega))) hc
                              · exact absurd c6 (by decide)
                            · refine lv_iload hx hb d_O_greatest_103 (lv_at hl 7 rfl) ?_
                              refine lv_iload_n hx hb d_O_greatest_105 rfl (lv_at hl 2 rfl) ?_
                              refine lv_icmp_eq (tgt := 129) hx hb d_O_greatest_106 (by decide) (fun hx0 => ?_) (fun hx0 => ?_)
                              · refine lv_iconst (v := nI 0) hx hb d_O_greatest_129 (by decide) ?_
                                refine lv_istore (lv' := [(9, .int (nI 0)), (0, .ref (ad 0)), (1, .int (nI n)), (2, .int x), (3, .int y), (4, .int (nI (n - 1 - r))), (5, .int (nI t)), (6, .long (lN (rwG (w (n - 1 - r)) (gO w pn n r) t q))), (8, .int (nI q))]) hx hb d_O_greatest_130 hl (by decide) rfl (fun ls hl => ?_)
                                refine lv_iload hx hb d_O_greatest_132 (lv_at hl 0 rfl) ?_
                                refine nv_if_eq (tgt := 181) hx hb d_O_greatest_134 (by decide) (by decide) (fun c8 => ?_) (fun c8 => ?_)
                                · refine lv_ldc2 (v := (-1)) hx hb hown (hts (.constantLong R_O 115 (-1)) (by decide +kernel)) d_O_greatest_181 ?_
                                  refine lv_lstore (lv' := [(10, .long (-1)), (9, .int (nI 0)), (0, .ref (ad 0)), (1, .int (nI n)), (2, .int x), (3, .int y), (4, .int (nI (n - 1 - r))), (5, .int (nI t)), (6, .long (lN (rwG (w (n - 1 - r)) (gO w pn n r) t q))), (8, .int (nI q))]) hx hb d_O_greatest_184 hl (by decide) rfl (fun ls hl => ?_)
                                  refine lv_lload hx hb d_O_greatest_186 (lv_at hl 0 rfl) ?_
                                  refine lv_lload hx hb d_O_greatest_188 (lv_at hl 8 rfl) ?_
                                  refine lc_le (tgt := 199) hx hb d_O_greatest_190 d_O_greatest_191 (by decide) (fun hc => ?_) (fun hc => ?_)
                                  · refine lv_lload hx hb d_O_greatest_199 (lv_at hl 8 rfl) ?_
                                    refine lv_lstore (lv' := [(6, .long (lN (rwG (w (n - 1 - r)) (gO w pn n r) t q))), (10, .long (-1)), (9, .int (nI 0)), (0, .ref (ad 0)), (1, .int (nI n)), (2, .int x), (3, .int y), (4, .int (nI (n - 1 - r))), (5, .int (nI t)), (8, .int (nI q))]) hx hb d_O_greatest_201 hl (by decide) rfl (fun ls hl => ?_)
                                    have el9 : lN (rwG (w (n - 1 - r)) (gO w pn n r) t q) = lN (rwG (w (n - 1 - r)) (gO w pn n r) t (q + 1)) := congrArg lN (by simp only [rwG]; first | (rw [if_neg (fun z => by first | exact z.1 hx0 | exact bI_0.mp hpr z.2)] at hwq; rw [hwq]) | (split; exact (if_neg hbit).symm; rfl))
                                    have hl : lv_has ls 12 [(6, .long (lN (rwG (w (n - 1 - r)) (gO w pn n r) t (q + 1)))), (10, .long (-1)), (9, .int (nI 0)), (0, .ref (ad 0)), (1, .int (nI n)), (2, .int x), (3, .int y), (4, .int (nI (n - 1 - r))), (5, .int (nI t)), (8, .int (nI q))] := by rw [← el9]; exact hl
                                    refine lv_iinc (v := nI (q + 1)) (lv' := [(8, .int (nI (q + 1))), (6, .long (lN (rwG (w (n - 1 - r)) (gO w pn n r) t (q + 1)))), (10, .long (-1)), (9, .int (nI 0)), (0, .ref (ad 0)), (1, .int (nI n)), (2, .int x), (3, .int y), (4, .int (nI (n - 1 - r))), (5, .int (nI t))]) hx hb d_O_greatest_203 hl (k := 9) rfl (nI_1 q) (by decide) rfl (fun ls hl => ?_)
                                    refine lv_goto (tgt := 73) hx hb d_O_greatest_206 (by decide) ?_
                                    exact ih73 (q + 1) (by omega) (hq) _ _ hP hD hS ls (lv_sub hl [4, 5, 6, 7, 8, 9, 1, 0] rfl)
                                  · exact absurd (m1_leN (Nat.lt_of_le_of_lt (rwG_le (fun z => gO_le hwb r z) (fun q v h => hwb _ q v h) t q) (by omega))) hc
                                · exact absurd c8 (by decide)
                              · refine lv_aload_n hx hb d_O_greatest_109 rfl (lv_at hl 0 rfl) ?_
                                refine lv_iload hx hb d_O_greatest_110 (lv_at hl 7 rfl) ?_
                                refine lv_aload_n hx hb d_O_greatest_112 rfl (lv_at hl 0 rfl) ?_
                                refine fv_get (ci := 7) (v := .ref (ad 22)) (C := R_O) (T := F_O) (N := 36) hx hb hts (by decide +kernel) hown hK hP 0 0 rfl rfl rfl 34 (by decide) (hts (.fieldLink R_O 75 "PartShelvesModel" "order" "[I") (by decide +kernel)) (fun _ h9 => h9) rfl d_O_greatest_113 ?_
                                refine lv_iload hx hb d_O_greatest_116 (lv_at hl 4 rfl) ?_
                                refine fa_ialdN hx hb hK hP 0 22 0 rfl rfl rfl (by omega) (by decide) d_O_greatest_118 ?_
                                refine r_calli (W.runV (As := [.int (nI q), .int (nI (od (n - 1 - r)))]) (rest := []) ⟨hx, hb, hml, hown, hts⟩ (c_O_isPair l D kC ad td rn pn an jn tn bm fw gp ga bp fc fj rA rC ft kd aG sR sT wh dY pd cN mN sv nd wr tl lt lT lD gv gn od (brP w pn n br r t) q (od (n - 1 - r)) (by omega) (hod _) (han) (hsT) (hdY) (htd) (hrn) (hrA) (haG) (hkd) (hpd) (hcN) (hrC) (hwh)) (cwV 2 hts g_O_greatest_isPair rfl rfl rfl (by decide +kernel) ⟨Nat.le_of_ble_eq_true rfl, Nat.le_of_ble_eq_true rfl⟩) (r_preV (f_recv (ci := 7) (q0 := 0) hK hP 0 rfl rfl rfl) hK hP) rfl rfl hl.1 rfl (lv_room (Nat.le_of_ble_eq_true rfl)) d_O_greatest_119 ⟨Nat.le_of_ble_eq_true rfl, Nat.le_of_ble_eq_true rfl⟩) ?_
                                refine lv_if_eq (tgt := 129) hx hb d_O_greatest_122 (by decide) (fun hpr => ?_) (fun hpr => ?_)
                                · refine lv_iconst (v := nI 0) hx hb d_O_greatest_129 (by decide) ?_
                                  refine lv_istore (lv' := [(9, .int (nI 0)), (0, .ref (ad 0)), (1, .int (nI n)), (2, .int x), (3, .int y), (4, .int (nI (n - 1 - r))), (5, .int (nI t)), (6, .long (lN (rwG (w (n - 1 - r)) (gO w pn n r) t q))), (8, .int (nI q))]) hx hb d_O_greatest_130 hl (by decide) rfl (fun ls hl => ?_)
                                  refine lv_iload hx hb d_O_greatest_132 (lv_at hl 0 rfl) ?_
                                  refine nv_if_eq (tgt := 181) hx hb d_O_greatest_134 (by decide) (by decide) (fun c10 => ?_) (fun c10 => ?_)
                                  · refine lv_ldc2 (v := (-1)) hx hb hown (hts (.constantLong R_O 115 (-1)) (by decide +kernel)) d_O_greatest_181 ?_
                                    refine lv_lstore (lv' := [(10, .long (-1)), (9, .int (nI 0)), (0, .ref (ad 0)), (1, .int (nI n)), (2, .int x), (3, .int y), (4, .int (nI (n - 1 - r))), (5, .int (nI t)), (6, .long (lN (rwG (w (n - 1 - r)) (gO w pn n r) t q))), (8, .int (nI q))]) hx hb d_O_greatest_184 hl (by decide) rfl (fun ls hl => ?_)
                                    refine lv_lload hx hb d_O_greatest_186 (lv_at hl 0 rfl) ?_
                                    refine lv_lload hx hb d_O_greatest_188 (lv_at hl 8 rfl) ?_
                                    refine lc_le (tgt := 199) hx hb d_O_greatest_190 d_O_greatest_191 (by decide) (fun hc => ?_) (fun hc => ?_)
                                    · refine lv_lload hx hb d_O_greatest_199 (lv_at hl 8 rfl) ?_
                                      refine lv_lstore (lv' := [(6, .long (lN (rwG (w (n - 1 - r)) (gO w pn n r) t q))), (10, .long (-1)), (9, .int (nI 0)), (0, .ref (ad 0)), (1, .int (nI n)), (2, .int x), (3, .int y), (4, .int (nI (n - 1 - r))), (5, .int (nI t)), (8, .int (nI q))]) hx hb d_O_greatest_201 hl (by decide) rfl (fun ls hl => ?_)
                                      have el11 : lN (rwG (w (n - 1 - r)) (gO w pn n r) t q) = lN (rwG (w (n - 1 - r)) (gO w pn n r) t (q + 1)) := congrArg lN (by simp only [rwG]; first | (rw [if_neg (fun z => by first | exact z.1 hx0 | exact bI_0.mp hpr z.2)] at hwq; rw [hwq]) | (split; exact (if_neg hbit).symm; rfl))
                                      have hl : lv_has ls 12 [(6, .long (lN (rwG (w (n - 1 - r)) (gO w pn n r) t (q + 1)))), (10, .long (-1)), (9, .int (nI 0)), (0, .ref (ad 0)), (1, .int (nI n)), (2, .int x), (3, .int y), (4, .int (nI (n - 1 - r))), (5, .int (nI t)), (8, .int (nI q))] := by rw [← el11]; exact hl
                                      refine lv_iinc (v := nI (q + 1)) (lv' := [(8, .int (nI (q + 1))), (6, .long (lN (rwG (w (n - 1 - r)) (gO w pn n r) t (q + 1)))), (10, .long (-1)), (9, .int (nI 0)), (0, .ref (ad 0)), (1, .int (nI n)), (2, .int x), (3, .int y), (4, .int (nI (n - 1 - r))), (5, .int (nI t))]) hx hb d_O_greatest_203 hl (k := 9) rfl (nI_1 q) (by decide) rfl (fun ls hl => ?_)
                                      refine lv_goto (tgt := 73) hx hb d_O_greatest_206 (by decide) ?_
                                      exact ih73 (q + 1) (by omega) (hq) _ _ hP hD hS ls (lv_sub hl [4, 5, 6, 7, 8, 9, 1, 0] rfl)
                                    · exact absurd (m1_leN (Nat.lt_of_le_of_lt (rwG_le (fun z => gO_le hwb r z) (fun q v h => hwb _ q v h) t q) (by omega))) hc
                                  · exact absurd c10 (by decide)
                                · have hpr := bI_n0.mp hpr
                                  rw [if_pos ⟨hx0, hpr⟩] at hwq
                                  refine lv_iconst (v := nI 1) hx hb d_O_greatest_125 (by decide) ?_
                                  refine lv_goto (tgt := 130) hx hb d_O_greatest_126 (by decide) ?_
                                  refine lv_istore (lv' := [(9, .int (nI 1)), (0, .ref (ad 0)), (1, .int (nI n)), (2, .int x), (3, .int y), (4, .int (nI (n - 1 - r))), (5, .int (nI t)), (6, .long (lN (rwG (w (n - 1 - r)) (gO w pn n r) t q))), (8, .int (nI q))]) hx hb d_O_greatest_130 hl (by decide) rfl (fun ls hl => ?_)
                                  refine lv_iload hx hb d_O_greatest_132 (lv_at hl 0 rfl) ?_
                                  refine nv_if_eq (tgt := 181) hx hb d_O_greatest_134 (by decide) (by decide) (fun c12 => ?_) (fun c12 => ?_)
                                  · exact absurd c12 (by decide)
                                  · refine lv_aload_n hx hb d_O_greatest_137 rfl (lv_at hl 1 rfl) ?_
                                    refine fv_get (ci := 7) (v := .ref (ad 11)) (C := R_O) (T := F_O) (N := 36) hx hb hts (by decide +kernel) hown hK hP 0 0 rfl rfl rfl 14 (by decide) (hts (.fieldLink R_O 42 "PartShelvesModel" "cents" "[J") (by decide +kernel)) (fun _ h9 => h9) rfl d_O_greatest_138 ?_
                                    refine lv_aload_n hx hb d_O_greatest_141 rfl (lv_at hl 1 rfl) ?_
                                    refine fv_get (ci := 7) (v := .ref (ad 22)) (C := R_O) (T := F_O) (N := 36) hx hb hts (by decide +kernel) hown hK hP 0 0 rfl rfl rfl 34 (by decide) (hts (.fieldLink R_O 75 "PartShelvesModel" "order" "[I") (by decide +kernel)) (fun _ h9 => h9) rfl d_O_greatest_142 ?_
                                    refine lv_iload hx hb d_O_greatest_145 (lv_at hl 5 rfl) ?_
                                    refine fa_ialdN hx hb hK hP 0 22 0 rfl rfl rfl (by omega) (by decide) d_O_greatest_147 ?_
                                    refine fa_laldN hx hb hK hP 0 11 1 rfl rfl rfl (hod _) (by decide) d_O_greatest_148 ?_
                                    refine lv_aload_n hx hb d_O_greatest_149 rfl (lv_at hl 1 rfl) ?_
                                    refine lv_iload hx hb d_O_greatest_150 (lv_at hl 8 rfl) ?_
                                    refine r_calll (W.runV (As := [.int (nI q)]) (rest := [.long (lN (cN (od (n - 1 - r))))]) ⟨hx, hb, hml, hown, hts⟩ (c_O_prOf l D kC ad td rn pn an jn tn bm fw gp ga bp fc fj rA rC ft kd aG sR sT wh dY pd cN mN sv nd wr tl lt lT lD gv gn od (brP w pn n br r t) q (by omega) (hrn) (hrA) (haG)) (cwV 1 hts g_O_greatest_priceOf rfl rfl rfl (by decide +kernel) ⟨Nat.le_of_ble_eq_true rfl, Nat.le_of_ble_eq_true rfl⟩) (r_preV (f_recv (ci := 7) (q0 := 0) hK hP 0 rfl rfl rfl) hK hP) rfl rfl hl.1 rfl (lv_room (Nat.le_of_ble_eq_true rfl)) d_O_greatest_152 ⟨Nat.le_of_ble_eq_true rfl, Nat.le_of_ble_eq_true rfl⟩) ?_
                                    refine nv_lsub hx hb d_O_greatest_155 (hpr.2.2.2) ?_
                                    refine lv_aload_n hx hb d_O_greatest_156 rfl (lv_at hl 1 rfl) ?_
                                    refine fv_get (ci := 7) (v := .ref (ad 23)) (C := R_O) (T := F_O) (N := 36) hx hb hts (by decide +kernel) hown hK hP 0 0 rfl rfl rfl 35 (by decide) (hts (.fieldLink R_O 78 "PartShelvesModel" "brings" "[J") (by decide +kernel)) (fun _ h9 => h9) rfl d_O_greatest_157 ?_
                                    refine lv_sipush (v := nI 256) hx hb d_O_greatest_160 (by decide +kernel) ?_
                                    refine lv_iload hx hb d_O_greatest_163 (lv_at hl 5 rfl) ?_
                                    refine lv_iconst (v := nI 1) hx hb d_O_greatest_165 (by decide) ?_
                                    refine nv_iadd hx hb d_O_greatest_166 ?_
                                    refine nv_imul hx hb d_O_greatest_167 ?_
                                    refine lv_iload hx hb d_O_greatest_168 (lv_at hl 6 rfl) ?_
                                    refine lv_iconst (v := nI 1) hx hb d_O_greatest_170 (by decide) ?_
                                    refine lv_iload hx hb d_O_greatest_171 (lv_at hl 8 rfl) ?_
                                    refine lv_ishl hx hb d_O_greatest_173 ?_
                                    refine nv_topi (y := nI (2 ^ q)) (shl1 q (by omega)) ?_
                                    refine lv_ior hx hb d_O_greatest_174 ?_
                                    refine nv_topi (y := nI (t ||| 2 ^ q)) (nx_or _ _) ?_
                                    refine nv_iadd hx hb d_O_greatest_175 ?_
                                    refine fa_laldN hx hb hK hP 0 23 1 rfl rfl rfl (by have := or_lt' t ht q (by omega); omega) (by decide) d_O_greatest_176 ?_
                                    refine nv_topl (y := lN (gO w pn n r (t ||| 2 ^ q))) (congrArg lN (brP_up w pn n br r t _ (by omega) (or_lt' t ht q (by omega)) (by omega))) ?_
                                    refine nv_ladd hx hb d_O_greatest_177 ?_
                                    refine lv_goto (tgt := 184) hx hb d_O_greatest_178 (by decide) ?_
                                    refine lv_lstore (lv' := [(10, .long (lN (cN (od (n - 1 - r)) - (prM rA rC (aG q) rn) + gO w pn n r (t ||| 2 ^ q)))), (9, .int (nI 1)), (0, .ref (ad 0)), (1, .int (nI n)), (2, .int x), (3, .int y), (4, .int (nI (n - 1 - r))), (5, .int (nI t)), (6, .long (lN (rwG (w (n - 1 - r)) (gO w pn n r) t q))), (8, .int (nI q))]) hx hb d_O_greatest_184 hl (by decide) rfl (fun ls hl => ?_)
                                    refine lv_lload hx hb d_O_greatest_186 (lv_at hl 0 rfl) ?_
                                    refine lv_lload hx hb d_O_greatest_188 (lv_at hl 8 rfl) ?_
                                    refine lc_le (tgt := 199) hx hb d_O_greatest_190 d_O_greatest_191 (by decide) (fun hc => ?_) (fun hc => ?_)
                                    · refine lv_lload hx hb d_O_greatest_199 (lv_at hl 8 rfl) ?_
                                      refine lv_lstore (lv' := [(6, .long (lN (rwG (w (n - 1 - r)) (gO w pn n r) t q))), (10, .long (lN (cN (od (n - 1 - r)) - (prM rA rC (aG q) rn) + gO w pn n r (t ||| 2 ^ q)))), (9, .int (nI 1)), (0, .ref (ad 0)), (1, .int (nI n)), (2, .int x), (3, .int y), (4, .int (nI (n - 1 - r))), (5, .int (nI t)), (8, .int (nI q))]) hx hb d_O_greatest_201 hl (by decide) rfl (fun ls hl => ?_)
                                      have el13 : lN (rwG (w (n - 1 - r)) (gO w pn n r) t q) = lN (rwG (w (n - 1 - r)) (gO w pn n r) t (q + 1)) := congrArg lN (by simp only [rwG, hwq]; rw [if_pos hbit, Nat.max_eq_left ((pk_lLE (by have := hcN (od (n - 1 - r)); have := gO_le (pn := pn) (n := n) hwb r (t ||| 2 ^ q); omega) (Nat.lt_of_le_of_lt (rwG_le (fun z => gO_le hwb r z) (fun q v h => hwb _ q v h) t q) (by omega))).mp hc)])
                                      have hl : lv_has ls 12 [(6, .long (lN (rwG (w (n - 1 - r)) (gO w pn n r) t (q + 1)))), (10, .long (lN (cN (od (n - 1 - r)) - (prM rA rC (aG q) rn) + gO w pn n r (t ||| 2 ^ q)))), (9, .int (nI 1)), (0, .ref (ad 0)), (1, .int (nI n)), (2, .int x), (3, .int y), (4, .int (nI (n - 1 - r))), (5, .int (nI t)), (8, .int (nI q))] := by rw [← el13]; exact hl
                                      refine lv_iinc (v := nI (q + 1)) (lv' := [(8, .int (nI (q + 1))), (6, .long (lN (rwG (w (n - 1 - r)) (gO w pn n r) t (q + 1)))), (10, .long (lN (cN (od (n - 1 - r)) - (prM rA rC (aG q) rn) + gO w pn n r (t ||| 2 ^ q)))), (9, .int (nI 1)), (0, .ref (ad 0)), (1, .int (nI n)), (2, .int x), (3, .int y), (4, .int (nI (n - 1 - r))), (5, .int (nI t))]) hx hb d_O_greatest_203 hl (k := 9) rfl (nI_1 q) (by decide) rfl (fun ls hl => ?_)
                                      refine lv_goto (tgt := 73) hx hb d_O_greatest_206 (by decide) ?_
                                      exact ih73 (q + 1) (by omega) (hq) _ _ hP hD hS ls (lv_sub hl [4, 5, 6, 7, 8, 9, 1, 0] rfl)
                                    · refine lv_lload hx hb d_O_greatest_194 (lv_at hl 0 rfl) ?_
                                      refine lv_goto (tgt := 201) hx hb d_O_greatest_196 (by decide) ?_
                                      refine lv_lstore (lv' := [(6, .long (lN (cN (od (n - 1 - r)) - (prM rA rC (aG q) rn) + gO w pn n r (t ||| 2 ^ q)))), (10, .long (lN (cN (od (n - 1 - r)) - (prM rA rC (aG q) rn) + gO w pn n r (t ||| 2 ^ q)))), (9, .int (nI 1)), (0, .ref (ad 0)), (1, .int (nI n)), (2, .int x), (3, .int y), (4, .int (nI (n - 1 - r))), (5, .int (nI t)), (8, .int (nI q))]) hx hb d_O_greatest_201 hl (by decide) rfl (fun ls hl => ?_)
                                      have el14 : lN (cN (od (n - 1 - r)) - (prM rA rC (aG q) rn) + gO w pn n r (t ||| 2 ^ q)) = lN (rwG (w (n - 1 - r)) (gO w pn n r) t (q + 1)) := congrArg lN (by simp only [rwG, hwq]; rw [if_pos hbit, Nat.max_eq_right (Nat.le_of_lt (Nat.lt_of_not_le (fun z => hc ((pk_lLE (by have := hcN (od (n - 1 - r)); have := gO_le (pn := pn) (n := n) hwb r (t ||| 2 ^ q); omega) (Nat.lt_of_le_of_lt (rwG_le (fun z => gO_le hwb r z) (fun q v h => hwb _ q v h) t q) (by omega))).mpr z))))])
                                      have hl : lv_has ls 12 [(6, .long (lN (rwG (w (n - 1 - r)) (gO w pn n r) t (q + 1)))), (10, .long (lN (cN (od (n - 1 - r)) - (prM rA rC (aG q) rn) + gO w pn n r (t ||| 2 ^ q)))), (9, .int (nI 1)), (0, .ref (ad 0)), (1, .int (nI n)), (2, .int x), (3, .int y), (4, .int (nI (n - 1 - r))), (5, .int (nI t)), (8, .int (nI q))] := by rw [← el14]; exact hl
                                      refine lv_iinc (v := nI (q + 1)) (lv' := [(8, .int (nI (q + 1))), (6, .long (lN (rwG (w (n - 1 - r)) (gO w pn n r) t (q + 1)))), (10, .long (lN (cN (od (n - 1 - r)) - (prM rA rC (aG q) rn) + gO w pn n r (t ||| 2 ^ q)))), (9, .int (nI 1)), (0, .ref (ad 0)), (1, .int (nI n)), (2, .int x), (3, .int y), (4, .int (nI (n - 1 - r))), (5, .int (nI t))]) hx hb d_O_greatest_203 hl (k := 9) rfl (nI_1 q) (by decide) rfl (fun ls hl => ?_)
                                      refine lv_goto (tgt := 73) hx hb d_O_greatest_206 (by decide) ?_
                                      exact ih73 (q + 1) (by omega) (hq) _ _ hP hD hS ls (lv_sub hl [4, 5, 6, 7, 8, 9, 1, 0] rfl)
                    exact L73 _ 0 (Nat.lt_succ_self _) (Nat.zero_le _) _ _ hP hD hS ls (lv_sub hl [2, 3, 4, 5, 6, 7, 1, 0] rfl)
              have ew15 : (brF w pn n br r) = (brP w pn n br r 0) := (brP_0 w pn n br r).symm
              have hP : va_P D cls (fl [(wO kC ad td rn pn an jn tn bm fw gp ga bp fc fj rA rC ft kd aG sR sT wh dY pd cN mN sv nd wr tl lt lT lD gv gn od (brP w pn n br r 0))]) H := by rw [← ew15]; exact hP
              have hD : va_D A (fl [(wO kC ad td rn pn an jn tn bm fw gp ga bp fc fj rA rC ft kd aG sR sT wh dY pd cN mN sv nd wr tl lt lT lD gv gn od (brP w pn n br r 0))]) := by rw [← ew15]; exact hD
              exact L44 _ 0 (Nat.lt_succ_self _) (by decide) _ _ hP hD hS ls (lv_sub hl [1, 2, 3, 4, 5, 0] rfl)
        have ew16 : (brZ n br 256) = (brF w pn n br 0) := brF_0 w pn n br
        have hP : va_P D cls (fl [(wO kC ad td rn pn an jn tn bm fw gp ga bp fc fj rA rC ft kd aG sR sT wh dY pd cN mN sv nd wr tl lt lT lD gv gn od (brF w pn n br 0))]) H := by rw [← ew16]; exact hP
        have hD : va_D A (fl [(wO kC ad td rn pn an jn tn bm fw gp ga bp fc fj rA rC ft kd aG sR sT wh dY pd cN mN sv nd wr tl lt lT lD gv gn od (brF w pn n br 0))]) := by rw [← ew16]; exact hD
        exact L36 _ n 0 (Nat.lt_succ_self _) (rfl) _ _ hP hD hS ls (lv_sub hl [1, 2, 3, 4, 0] rfl)
      · refine lv_aload_n hx hb d_O_greatest_11 rfl (lv_at hl 0 rfl) ?_
        refine fv_get (ci := 7) (v := .ref (ad 23)) (C := R_O) (T := F_O) (N := 36) hx hb hts (by decide +kernel) hown hK hP 0 0 rfl rfl rfl 35 (by decide) (hts (.fieldLink R_O 78 "PartShelvesModel" "brings" "[J") (by decide +kernel)) (fun _ h9 => h9) rfl d_O_greatest_12 ?_
        refine lv_sipush (v := nI 256) hx hb d_O_greatest_15 (by decide +kernel) ?_
        refine lv_iload_n hx hb d_O_greatest_18 rfl (lv_at hl 1 rfl) ?_
        refine nv_imul hx hb d_O_greatest_19 ?_
        refine lv_iload hx hb d_O_greatest_20 (lv_at hl 4 rfl) ?_
        refine nv_iadd hx hb d_O_greatest_22 ?_
        refine lv_lconst (v := lN 0) hx hb d_O_greatest_23 (by decide) ?_
        refine fa_lastN hx hb hK hP hD hS 0 23 1 rfl rfl rfl (by omega) (by decide) d_O_greatest_24 (fun H locs hP hD hS => ?_)
        have hP : va_P D cls (fl [(wO kC ad td rn pn an jn tn bm fw gp ga bp fc fj rA rC ft kd aG sR sT wh dY pd cN mN sv nd wr tl lt lT lD gv gn od (updN (brZ n br t) (256 * n + t) 0))]) H := hP
        have hD : va_D A (fl [(wO kC ad td rn pn an jn tn bm fw gp ga bp fc fj rA rC ft kd aG sR sT wh dY pd cN mN sv nd wr tl lt lT lD gv gn od (updN (brZ n br t) (256 * n + t) 0))]) := hD
        refine lv_iinc (v := nI (t + 1)) (lv' := [(4, .int (nI (t + 1))), (0, .ref (ad 0)), (1, .int (nI n)), (2, .int x), (3, .int y)]) hx hb d_O_greatest_25 hl (k := 4) rfl (nI_1 t) (by decide) rfl (fun ls hl => ?_)
        refine lv_goto (tgt := 3) hx hb d_O_greatest_28 (by decide) ?_
        have ew17 : (updN (brZ n br t) (256 * n + t) 0) = (brZ n br (t + 1)) := brZ_s _ _ _
        have hP : va_P D cls (fl [(wO kC ad td rn pn an jn tn bm fw gp ga bp fc fj rA rC ft kd aG sR sT wh dY pd cN mN sv nd wr tl lt lT lD gv gn od (brZ n br (t + 1)))]) H := by rw [← ew17]; exact hP
        have hD : va_D A (fl [(wO kC ad td rn pn an jn tn bm fw gp ga bp fc fj rA rC ft kd aG sR sT wh dY pd cN mN sv nd wr tl lt lT lD gv gn od (brZ n br (t + 1)))]) := by rw [← ew17]; exact hD
        exact ih3 (t + 1) (by omega) (ht) _ _ hP hD hS ls (lv_sub hl [1, 2, 3, 4, 0] rfl)
  have ew18 : br = (brZ n br 0) := (brZ_0 _ _).symm
  have hP : va_P D cls (fl [(wO kC ad td rn pn an jn tn bm fw gp ga bp fc fj rA rC ft kd aG sR sT wh dY pd cN mN sv nd wr tl lt lT lD gv gn od (brZ n br 0))]) s.heap := by rw [← ew18]; exact hP
  have hD : va_D A (fl [(wO kC ad td rn pn an jn tn bm fw gp ga bp fc fj rA rC ft kd aG sR sT wh dY pd cN mN sv nd wr tl lt lT lD gv gn od (brZ n br 0))]) := by rw [← ew18]; exact hD
  exact L3 _ 0 (Nat.lt_succ_self _) (by decide) _ _ hP hD hS ls (lv_sub hl [1, 2, 3, 4, 0] rfl)

