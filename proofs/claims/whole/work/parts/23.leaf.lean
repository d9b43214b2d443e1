/-- the price rows -/
def wR (kC : Nat → ClassId) (ad : Nat → Nat) (ra : Nat → Int32) (rc : Nat → Int64) (rn : Nat) : va_W := [(ad 0, .inr (5, [.ref (ad 1), .ref (ad 2), .int (nI rn)])), (ad 1, .inl (kC 0, 6, .inl ra)), (ad 2, .inl (kC 1, 6, .inr (.inl rc)))]
/-- the price of an age: the last row that is not above it -/
def prAt (ra : Nat → Int32) (rc : Nat → Int64) (x : Int32) : Nat → Int64
  | 0 => lN 0
  | k + 1 => if ra k ≤ x then rc k else prAt ra rc x k
/-- whether one more row may come -/
abbrev rowOk (ra : Nat → Int32) (rn : Nat) (x : Int32) : Prop := rn < 6 ∧ (rn = 0 ∨ ra (rn - 1) < x)
abbrev b_R_at : ByteArray := prog_6_method_3_code
def y_R_at : MethodName := ⟨"PartShelves$PriceRows", "at", "(I)J"⟩
theorem d_R_at_0 : decode b_R_at 0 = .ok (.aload_n 0, 1) := by decide +kernel
theorem d_R_at_1 : decode b_R_at 1 = .ok (.getfield 19, 3) := by decide +kernel
theorem d_R_at_4 : decode b_R_at 4 = .ok (.iconst 1, 1) := by decide +kernel
theorem d_R_at_5 : decode b_R_at 5 = .ok (.isub, 1) := by decide +kernel
theorem d_R_at_6 : decode b_R_at 6 = .ok (.istore_n 2, 1) := by decide +kernel
theorem d_R_at_7 : decode b_R_at 7 = .ok (.iload_n 2, 1) := by decide +kernel
theorem d_R_at_8 : decode b_R_at 8 = .ok (.ifCond .lt 26, 3) := by decide +kernel
theorem d_R_at_11 : decode b_R_at 11 = .ok (.aload_n 0, 1) := by decide +kernel
theorem d_R_at_12 : decode b_R_at 12 = .ok (.getfield 9, 3) := by decide +kernel
theorem d_R_at_15 : decode b_R_at 15 = .ok (.iload_n 2, 1) := by decide +kernel
theorem d_R_at_16 : decode b_R_at 16 = .ok (.iaload, 1) := by decide +kernel
theorem d_R_at_17 : decode b_R_at 17 = .ok (.iload_n 1, 1) := by decide +kernel
theorem d_R_at_18 : decode b_R_at 18 = .ok (.if_icmp .gt 10, 3) := by decide +kernel
theorem d_R_at_21 : decode b_R_at 21 = .ok (.aload_n 0, 1) := by decide +kernel
theorem d_R_at_22 : decode b_R_at 22 = .ok (.getfield 15, 3) := by decide +kernel
theorem d_R_at_25 : decode b_R_at 25 = .ok (.iload_n 2, 1) := by decide +kernel
theorem d_R_at_26 : decode b_R_at 26 = .ok (.laload, 1) := by decide +kernel
theorem d_R_at_27 : decode b_R_at 27 = .ok (.lreturn, 1) := by decide +kernel
theorem d_R_at_28 : decode b_R_at 28 = .ok (.iinc 2 (-1), 3) := by decide +kernel
theorem d_R_at_31 : decode b_R_at 31 = .ok (.goto (-24), 3) := by decide +kernel
theorem d_R_at_34 : decode b_R_at 34 = .ok (.lconst 0, 1) := by decide +kernel
theorem d_R_at_35 : decode b_R_at 35 = .ok (.lreturn, 1) := by decide +kernel
def w_R_at : List Cond := .code y_R_at b_R_at 3 (some .long) :: ([.fieldLink "PartShelves$PriceRows" 19 "PartShelves$PriceRows" "count" "I", .fieldLink "PartShelves$PriceRows" 9 "PartShelves$PriceRows" "ages" "[I", .fieldLink "PartShelves$PriceRows" 15 "PartShelves$PriceRows" "cents" "[J"] ++ u_ws R_R F_R 3)
set_option maxHeartbeats 4000000 in
set_option maxRecDepth 100000 in
theorem c_R_at (l : Launch) (D : va_G) (kC : Nat → ClassId) (ad : Nat → Nat) (ra : Nat → Int32) (rc : Nat → Int64) (rn : Nat) (x : Int32) (h6 : rn ≤ 6) : Met l y_R_at w_R_at ({ frames := 0, cells := 0, slots := 0, locals := 0 } : Room) (gPr cls D (tyL kC) [.ref (ad 0), .int x] (fl [(wR kC ad ra rc rn)])) (vp_Sl (fun r => r = prAt ra rc x rn)) 0 0 (fun _ => False) := by
  refine Met.ofW (cc := b_R_at) (maxL := 3) (ret := (some .long)) (by decide) rfl ?_
  intro p e s m args below meth c s₁ B hml hv
  obtain ⟨rfl, hP, hK⟩ := hv
  have hx := B.exec
  have hb := B.bytes
  have hr := B.returns
  have hts := atoms_spec (ws := w_R_at) B.pre
  have hown : s.vm.findClass R_R = some m.cls := findClass_of_methodNamed B.named
  have hlocks := B.notSynchronized
  have hl := lv_entry ([.ref (ad 0), .int x]) (n := 3) (Nat.le_of_ble_eq_true rfl)
  rw [lg_entry_eq]
  generalize (lg_sl ([.ref (ad 0), .int x]) ++ List.replicate (3 - (lg_sl ([.ref (ad 0), .int x])).length) Slot.unset).toArray = ls at hl ⊢
  have hl : lv_has ls 3 [(0, .ref (ad 0)), (1, .int x)] := hl
  refine lv_aload_n hx hb d_R_at_0 rfl (lv_at hl 0 rfl) ?_
  refine fv_get (ci := 5) (v := .int (nI rn)) (C := R_R) (T := F_R) (N := 3) hx hb hts (by decide +kernel) hown hK hP 0 0 rfl rfl rfl 2 (by decide) (hts (.fieldLink R_R 19 "PartShelves$PriceRows" "count" "I") (by decide +kernel)) (fun _ h9 => h9) rfl d_R_at_1 ?_
  refine lv_iconst (v := nI 1) hx hb d_R_at_4 (by decide) ?_
  refine lv_isub hx hb d_R_at_5 ?_
  refine lv_istore_n (lv' := [(2, .int ((nI rn) - (nI 1))), (0, .ref (ad 0)), (1, .int x)]) hx hb d_R_at_6 rfl hl (by decide) rfl (fun ls hl => ?_)
  have L7 : ∀ (n7 : Nat) (k : Nat), k < n7 → k ≤ rn → prAt ra rc x k = prAt ra rc x rn → ∀ (ls : Array Slot), lv_has ls 3 [(0, .ref (ad 0)), (1, .int x), (2, .int (nI k - nI 1))] → W p l e (headSpec w_R_at ({ frames := 0, cells := 0, slots := 0, locals := 0 } : Room)).room s m ([.ref (ad 0), .int x] : List Value).toArray below meth c s.heap [] 0 0 (MQ below (vp_Sl (fun r => r = prAt ra rc x rn)) ([.ref (ad 0), .int x] : List Value).toArray s 0 0 (fun _ => False)) (F0 m 7 ls []) := by
    intro n7
    induction n7 with
    | zero =>
      intro k hm
      exact absurd hm (Nat.not_lt_zero _)
    | succ n7 ih7 =>
      intro k hm hkn hT ls hl
      refine lv_iload_n hx hb d_R_at_7 rfl (lv_at hl 2 rfl) ?_
      refine lv_if_lt (tgt := 34) hx hb d_R_at_8 (by decide) (fun hk => ?_) (fun hk => ?_)
      · obtain rfl : k = 0 := (rk_neg (by omega)).mp hk
        refine lv_lconst (v := lN 0) hx hb d_R_at_34 (by decide) ?_
        exact W.lret (v := lN 0) hx hb hr (fun t ht hW => ⟨_, rfl, hT, ht⟩) t_nil d_R_at_35
      · obtain ⟨j, rfl⟩ := rk_pos (by omega) hk
        have el1 : nI (j + 1) - nI 1 = nI j := nI_pred j
        have hl : lv_has ls 3 [(0, .ref (ad 0)), (1, .int x), (2, .int (nI j))] := by rw [← el1]; exact hl
        refine lv_aload_n hx hb d_R_at_11 rfl (lv_at hl 0 rfl) ?_
        refine fv_get (ci := 5) (v := .ref (ad 1)) (C := R_R) (T := F_R) (N := 3) hx hb hts (by decide +kernel) hown hK hP 0 0 rfl rfl rfl 0 (by decide) (hts (.fieldLink R_R 9 "PartShelves$PriceRows" "ages" "[I") (by decide +kernel)) (fun _ h9 => h9) rfl d_R_at_12 ?_
        refine lv_iload_n hx hb d_R_at_15 rfl (lv_at hl 2 rfl) ?_
        refine fa_iald hx hb hK hP 0 1 0 rfl rfl rfl (by omega) (by decide) d_R_at_16 ?_
        refine lv_iload_n hx hb d_R_at_17 rfl (lv_at hl 1 rfl) ?_
        refine lv_icmp_gt (tgt := 28) hx hb d_R_at_18 (by decide) (fun hc => ?_) (fun hc => ?_)
        · refine lv_iinc (v := (nI j) - nI 1) (lv' := [(2, .int ((nI j) - nI 1)), (0, .ref (ad 0)), (1, .int x)]) hx hb d_R_at_28 hl (k := 2) rfl (by rw [Int32.sub_eq_add_neg]; rfl) (by decide) rfl (fun ls hl => ?_)
          refine lv_goto (tgt := 7) hx hb d_R_at_31 (by decide) ?_
          exact ih7 j (by omega) (by omega) (by rw [← hT]; exact (if_neg (by simpa using hc)).symm) ls (lv_sub hl [1, 2, 0] rfl)
        · refine lv_aload_n hx hb d_R_at_21 rfl (lv_at hl 0 rfl) ?_
          refine fv_get (ci := 5) (v := .ref (ad 2)) (C := R_R) (T := F_R) (N := 3) hx hb hts (by decide +kernel) hown hK hP 0 0 rfl rfl rfl 1 (by decide) (hts (.fieldLink R_R 15 "PartShelves$PriceRows" "cents" "[J") (by decide +kernel)) (fun _ h9 => h9) rfl d_R_at_22 ?_
          refine lv_iload_n hx hb d_R_at_25 rfl (lv_at hl 2 rfl) ?_
          refine fa_lald hx hb hK hP 0 2 1 rfl rfl rfl (by omega) (by decide) d_R_at_26 ?_
          exact W.lret (v := rc j) hx hb hr (fun t ht hW => ⟨_, rfl, by rw [← hT]; exact (if_pos (by simpa using hc)).symm, ht⟩) t_nil d_R_at_27
  exact L7 _ rn (Nat.lt_succ_self _) (Nat.le_refl _) (rfl) ls (lv_sub hl [1, 2, 0] rfl)

abbrev b_R_append : ByteArray := prog_6_method_2_code
def y_R_append : MethodName := ⟨"PartShelves$PriceRows", "append", "(IJ)Z"⟩
theorem d_R_append_0 : decode b_R_append 0 = .ok (.aload_n 0, 1) := by decide +kernel
theorem d_R_append_1 : decode b_R_append 1 = .ok (.getfield 19, 3) := by decide +kernel
theorem d_R_append_4 : decode b_R_append 4 = .ok (.bipush 6, 2) := by decide +kernel
theorem d_R_append_6 : decode b_R_append 6 = .ok (.if_icmp .ge 25, 3) := by decide +kernel
theorem d_R_append_9 : decode b_R_append 9 = .ok (.aload_n 0, 1) := by decide +kernel
theorem d_R_append_10 : decode b_R_append 10 = .ok (.getfield 19, 3) := by decide +kernel
theorem d_R_append_13 : decode b_R_append 13 = .ok (.ifCond .le 20, 3) := by decide +kernel
theorem d_R_append_16 : decode b_R_append 16 = .ok (.iload_n 1, 1) := by decide +kernel
theorem d_R_append_17 : decode b_R_append 17 = .ok (.aload_n 0, 1) := by decide +kernel
theorem d_R_append_18 : decode b_R_append 18 = .ok (.getfield 9, 3) := by decide +kernel
theorem d_R_append_21 : decode b_R_append 21 = .ok (.aload_n 0, 1) := by decide +kernel
theorem d_R_append_22 : decode b_R_append 22 = .ok (.getfield 19, 3) := by decide +kernel
theorem d_R_append_25 : decode b_R_append 25 = .ok (.iconst 1, 1) := by decide +kernel
theorem d_R_append_26 : decode b_R_append 26 = .ok (.isub, 1) := by decide +kernel
theorem d_R_append_27 : decode b_R_append 27 = .ok (.iaload, 1) := by decide +kernel
theorem d_R_append_28 : decode b_R_append 28 = .ok (.if_icmp .gt 5, 3) := by decide +kernel
theorem d_R_append_31 : decode b_R_append 31 = .ok (.iconst 0, 1) := by decide +kernel
theorem d_R_append_32 : decode b_R_append 32 = .ok (.ireturn, 1) := by decide +kernel
theorem d_R_append_33 : decode b_R_append 33 = .ok (.aload_n 0, 1) := by decide +kernel
theorem d_R_append_34 : decode b_R_append 34 = .ok (.getfield 9, 3) := by decide +kernel
theorem d_R_append_37 : decode b_R_append 37 = .ok (.aload_n 0, 1) := by decide +kernel
theorem d_R_append_38 : decode b_R_append 38 = .ok (.getfield 19, 3) := by decide +kernel
theorem d_R_append_41 : decode b_R_append 41 = .ok (.iload_n 1, 1) := by decide +kernel
theorem d_R_append_42 : decode b_R_append 42 = .ok (.iastore, 1) := by decide +kernel
theorem d_R_append_43 : decode b_R_append 43 = .ok (.aload_n 0, 1) := by decide +kernel
theorem d_R_append_44 : decode b_R_append 44 = .ok (.getfield 15, 3) := by decide +kernel
theorem d_R_append_47 : decode b_R_append 47 = .ok (.aload_n 0, 1) := by decide +kernel
theorem d_R_append_48 : decode b_R_append 48 = .ok (.getfield 19, 3) := by decide +kernel
theorem d_R_append_51 : decode b_R_append 51 = .ok (.lload_n 2, 1) := by decide +kernel
theorem d_R_append_52 : decode b_R_append 52 = .ok (.lastore, 1) := by decide +kernel
theorem d_R_append_53 : decode b_R_append 53 = .ok (.aload_n 0, 1) := by decide +kernel
theorem d_R_append_54 : decode b_R_append 54 = .ok (.dup, 1) := by decide +kernel
theorem d_R_append_55 : decode b_R_append 55 = .ok (.getfield 19, 3) := by decide +kernel
theorem d_R_append_58 : decode b_R_append 58 = .ok (.iconst 1, 1) := by decide +kernel
theorem d_R_append_59 : decode b_R_append 59 = .ok (.iadd, 1) := by decide +kernel
theorem d_R_append_60 : decode b_R_append 60 = .ok (.putfield 19, 3) := by decide +kernel
theorem d_R_append_63 : decode b_R_append 63 = .ok (.iconst 1, 1) := by decide +kernel
theorem d_R_append_64 : decode b_R_append 64 = .ok (.ireturn, 1) := by decide +kernel
def w_R_append : List Cond := .code y_R_append b_R_append 4 (some .boolean) :: ([.fieldLink "PartShelves$PriceRows" 19 "PartShelves$PriceRows" "count" "I", .fieldLink "PartShelves$PriceRows" 9 "PartShelves$PriceRows" "ages" "[I", .fieldLink "PartShelves$PriceRows" 15 "PartShelves$PriceRows" "cents" "[J"] ++ u_ws R_R F_R 3)
set_option maxHeartbeats 4000000 in
set_option maxRecDepth 100000 in
theorem c_R_append (l : Launch) (D : va_G) (kC : Nat → ClassId) (ad : Nat → Nat) (ra : Nat → Int32) (rc : Nat → Int64) (rn : Nat) (x : Int32) (v : Int64) (sz : Nat) (h6 : rn ≤ 6) : Met l y_R_append w_R_append ({ frames := 0, cells := 0, slots := 0, locals := 0 } : Room) (gPre cls D (tyL kC) [.ref (ad 0), .int x, .long v] (fl [(wR kC ad ra rc rn)]) sz) (gQi cls D (tyL kC) (fl [(wR kC ad ra rc rn)]) sz (bI (rowOk ra rn x)) (fl [(wR kC ad (if rowOk ra rn x then upd ra rn x else ra) (if rowOk ra rn x then vp_updL rc rn v else rc) (if rowOk ra rn x then rn + 1 else rn))])) 0 0 (va_A (fl [(wR kC ad ra rc rn)]) sz) := by
  refine Met.ofW (cc := b_R_append) (maxL := 4) (ret := (some .boolean)) (by decide) rfl ?_
  intro p e s m args below meth c s₁ B hml hv
  obtain ⟨rfl, hsz, hP, hK, hD0⟩ := hv
  have hx := B.exec
  have hb := B.bytes
  have hr := B.returns
  have hts := atoms_spec (ws := w_R_append) B.pre
  have hown : s.vm.findClass R_R = some m.cls := findClass_of_methodNamed B.named
  have hlocks := B.notSynchronized
  subst hsz
  obtain ⟨A, hAe⟩ : ∃ A : Nat → Prop, A = va_A (fl [(wR kC ad ra rc rn)]) s.heap.size := ⟨_, rfl⟩
  have hD : va_D A (fl [(wR kC ad ra rc rn)]) := by rw [hAe]; exact hD0.self
  have hA : ∀ q : Nat, s.heap.size ≤ q → A q := fun q h => by rw [hAe]; exact Or.inr h
  have hS : va_S A s.heap s.heap [] := va_S.rf
  have hl := lv_entry ([.ref (ad 0), .int x, .long v]) (n := 4) (Nat.le_of_ble_eq_true rfl)
  rw [lg_entry_eq]
  generalize (lg_sl ([.ref (ad 0), .int x, .long v]) ++ List.replicate (4 - (lg_sl ([.ref (ad 0), .int x, .long v])).length) Slot.unset).toArray = ls at hl ⊢
  have hl : lv_has ls 4 [(0, .ref (ad 0)), (1, .int x), (2, .long v)] := hl
  refine lv_aload_n hx hb d_R_append_0 rfl (lv_at hl 0 rfl) ?_
  refine fv_get (ci := 5) (v := .int (nI rn)) (C := R_R) (T := F_R) (N := 3) hx hb hts (by decide +kernel) hown hK hP 0 0 rfl rfl rfl 2 (by decide) (hts (.fieldLink R_R 19 "PartShelves$PriceRows" "count" "I") (by decide +kernel)) (fun _ h9 => h9) rfl d_R_append_1 ?_
  refine lv_bipush (v := nI 6) hx hb d_R_append_4 (by decide +kernel) ?_
  refine nv_icmp_ge (tgt := 31) hx hb d_R_append_6 (by decide) (by omega) (by omega) (fun hn => ?_) (fun hn => ?_)
  · have hC : ¬ rowOk ra rn x := fun q => by first | (have := q.1; omega) | (rcases q.2 with q2 | q2; omega; exact hc q2)
    refine lv_iconst (v := nI 0) hx hb d_R_append_31 (by decide) ?_
    have ew1 : ra = (if rowOk ra rn x then upd ra rn x else ra) := (if_neg hC).symm
    have hP : va_P D cls (fl [(wR kC ad (if rowOk ra rn x then upd ra rn x else ra) rc rn)]) s.heap := by rw [← ew1]; exact hP
    have hD : va_D A (fl [(wR kC ad (if rowOk ra rn x then upd ra rn x else ra) rc rn)]) := by rw [← ew1]; exact hD
    have ew2 : rc = (if rowOk ra rn x then vp_updL rc rn v else rc) := (if_neg hC).symm
    have hP : va_P D cls (fl [(wR kC ad (if rowOk ra rn x then upd ra rn x else ra) (if rowOk ra rn x then vp_updL rc rn v else rc) rn)]) s.heap := by rw [← ew2]; exact hP
    have hD : va_D A (fl [(wR kC ad (if rowOk ra rn x then upd ra rn x else ra) (if rowOk ra rn x then vp_updL rc rn v else rc) rn)]) := by rw [← ew2]; exact hD
    have ew3 : rn = (if rowOk ra rn x then rn + 1 else rn) := (if_neg hC).symm
    have hP : va_P D cls (fl [(wR kC ad (if rowOk ra rn x then upd ra rn x else ra) (if rowOk ra rn x then vp_updL rc rn v else rc) (if rowOk ra rn x then rn + 1 else rn))]) s.heap := by rw [← ew3]; exact hP
    have hD : va_D A (fl [(wR kC ad (if rowOk ra rn x then upd ra rn x else ra) (if rowOk ra rn x then vp_updL rc rn v else rc) (if rowOk ra rn x then rn + 1 else rn))]) := by rw [← ew3]; exact hD
    exact W.zret (v := nI 0) hx hb hr (nar_b (by first | exact Or.inl rfl | exact Or.inr rfl | exact bI_01)) (fun t ht hW => by subst hAe; exact ⟨⟨(nI 0), (), rfl, (bI_f hC).symm, by rw [ht]; exact hP, va_K.moved hW.alike hK, hD⟩, hS.F ht⟩) (by subst hAe; exact hS.2.2) d_R_append_32
  · refine lv_aload_n hx hb d_R_append_9 rfl (lv_at hl 0 rfl) ?_
    refine fv_get (ci := 5) (v := .int (nI rn)) (C := R_R) (T := F_R) (N := 3) hx hb hts (by decide +kernel) hown hK hP 0 0 rfl rfl rfl 2 (by decide) (hts (.fieldLink R_R 19 "PartShelves$PriceRows" "count" "I") (by decide +kernel)) (fun _ h9 => h9) rfl d_R_append_10 ?_
    refine nv_if_le (tgt := 33) hx hb d_R_append_13 (by decide) (by omega) (fun h0 => ?_) (fun h0 => ?_)
    · have hC : rowOk ra rn x := ⟨by omega, by first | (left; omega) | (right; exact hc)⟩
      refine lv_aload_n hx hb d_R_append_33 rfl (lv_at hl 0 rfl) ?_
      refine fv_get (ci := 5) (v := .ref (ad 1)) (C := R_R) (T := F_R) (N := 3) hx hb hts (by decide +kernel) hown hK hP 0 0 rfl rfl rfl 0 (by decide) (hts (.fieldLink R_R 9 "PartShelves$PriceRows" "ages" "[I") (by decide +kernel)) (fun _ h9 => h9) rfl d_R_append_34 ?_
      refine lv_aload_n hx hb d_R_append_37 rfl (lv_at hl 0 rfl) ?_
      refine fv_get (ci := 5) (v := .int (nI rn)) (C := R_R) (T := F_R) (N := 3) hx hb hts (by decide +kernel) hown hK hP 0 0 rfl rfl rfl 2 (by decide) (hts (.fieldLink R_R 19 "PartShelves$PriceRows" "count" "I") (by decide +kernel)) (fun _ h9 => h9) rfl d_R_append_38 ?_
      refine lv_iload_n hx hb d_R_append_41 rfl (lv_at hl 1 rfl) ?_
      refine fa_iast hx hb hK hP hD hS 0 1 0 rfl rfl rfl (by omega) (by decide) d_R_append_42 (fun H locs hP hD hS => ?_)
      have hP : va_P D cls (fl [(wR kC ad (upd ra rn x) rc rn)]) H := hP
      have hD : va_D A (fl [(wR kC ad (upd ra rn x) rc rn)]) := hD
      refine lv_aload_n hx hb d_R_append_43 rfl (lv_at hl 0 rfl) ?_
      refine fv_get (ci := 5) (v := .ref (ad 2)) (C := R_R) (T := F_R) (N := 3) hx hb hts (by decide +kernel) hown hK hP 0 0 rfl rfl rfl 1 (by decide) (hts (.fieldLink R_R 15 "PartShelves$PriceRows" "cents" "[J") (by decide +kernel)) (fun _ h9 => h9) rfl d_R_append_44 ?_
      refine lv_aload_n hx hb d_R_append_47 rfl (lv_at hl 0 rfl) ?_
      refine fv_get (ci := 5) (v := .int (nI rn)) (C := R_R) (T := F_R) (N := 3) hx hb hts (by decide +kernel) hown hK hP 0 0 rfl rfl rfl 2 (by decide) (hts (.fieldLink R_R 19 "PartShelves$PriceRows" "count" "I") (by decide +kernel)) (fun _ h9 => h9) rfl d_R_append_48 ?_
      refine lv_lload_n hx hb d_R_append_51 rfl (lv_at hl 2 rfl) ?_
      refine fa_last hx hb hK hP hD hS 0 2 1 rfl rfl rfl (by omega) (by decide) d_R_append_52 (fun H locs hP hD hS => ?_)
      have hP : va_P D cls (fl [(wR kC ad (upd ra rn x) (vp_updL rc rn v) rn)]) H := hP
      have hD : va_D A (fl [(wR kC ad (upd ra rn x) (vp_updL rc rn v) rn)]) := hD
      refine lv_aload_n hx hb d_R_append_53 rfl (lv_at hl 0 rfl) ?_
      refine lv_dup hx hb d_R_append_54 rfl ?_
      refine fv_get (ci := 5) (v := .int (nI rn)) (C := R_R) (T := F_R) (N := 3) hx hb hts (by decide +kernel) hown hK hP 0 0 rfl rfl rfl 2 (by decide) (hts (.fieldLink R_R 19 "PartShelves$PriceRows" "count" "I") (by decide +kernel)) (fun _ h9 => h9) rfl d_R_append_55 ?_
      refine lv_iconst (v := nI 1) hx hb d_R_append_58 (by decide) ?_
      refine nv_iadd hx hb d_R_append_59 ?_
      refine fv_put (ci := 5) (v := .int (nI (rn + 1))) (ty := (.int)) (C := R_R) (T := F_R) (N := 3) hx hb hts (by decide +kernel) t_R t_R_ok n_R hown hK hP hD hS 0 0 rfl rfl rfl 2 (by decide) (hts (.fieldLink R_R 19 "PartShelves$PriceRows" "count" "I") (by decide +kernel)) (fun _ h9 => h9) rfl (by decide +kernel) (rfl) (rfl) (Nat.le_of_ble_eq_true rfl) d_R_append_60 (fun H locs hP hD hS => ?_)
      have hP : va_P D cls (fl [(wR kC ad (upd ra rn x) (vp_updL rc rn v) (rn + 1))]) H := hP
      have hD : va_D A (fl [(wR kC ad (upd ra rn x) (vp_updL rc rn v) (rn + 1))]) := hD
      refine lv_iconst (v := nI 1) hx hb d_R_append_63 (by decide) ?_
      have ew4 : (upd ra rn x) = (if rowOk ra rn x then upd ra rn x else ra) := (if_pos hC).symm
      have hP : va_P D cls (fl [(wR kC ad (if rowOk ra rn x then upd ra rn x else ra) (vp_updL rc rn v) (rn + 1))]) H := by rw [← ew4]; exact hP
      have hD : va_D A (fl [(wR kC ad (if rowOk ra rn x then upd ra rn x else ra) (vp_updL rc rn v) (rn + 1))]) := by rw [← ew4]; exact hD
      have ew5 : (vp_updL rc rn v) = (if rowOk ra rn x then vp_updL rc rn v else rc) := (if_pos hC).symm
      have hP : va_P D cls (fl [(wR kC ad (if rowOk ra rn x then upd ra rn x else ra) (if rowOk ra rn x then vp_updL rc rn v else rc) (rn + 1))]) H := by rw [← ew5]; exact hP
      have hD : va_D A (fl [(wR kC ad (if rowOk ra rn x then upd ra rn x else ra) (if rowOk ra rn x then vp_updL rc rn v else rc) (rn + 1))]) := by rw [← ew5]; exact hD
      have ew6 : (rn + 1) = (if rowOk ra rn x then rn + 1 else rn) := (if_pos hC).symm
      have hP : va_P D cls (fl [(wR kC ad (if rowOk ra rn x then upd ra rn x else ra) (if rowOk ra rn x then vp_updL rc rn v else rc) (if rowOk ra rn x then rn + 1 else rn))]) H := by rw [← ew6]; exact hP
      have hD : va_D A (fl [(wR kC ad (if rowOk ra rn x then upd ra rn x else ra) (if rowOk ra rn x then vp_updL rc rn v else rc) (if rowOk ra rn x then rn + 1 else rn))]) := by rw [← ew6]; exact hD
      exact W.zret (v := nI 1) hx hb hr (nar_b (by first | exact Or.inl rfl | exact Or.inr rfl | exact bI_01)) (fun t ht hW => by subst hAe; exact ⟨⟨(nI 1), (), rfl, (bI_t hC).symm, by rw [ht]; exact hP, va_K.moved hW.alike hK, hD⟩, hS.F ht⟩) (by subst hAe; exact hS.2.2) d_R_append_64
    · refine lv_iload_n hx hb d_R_append_16 rfl (lv_at hl 1 rfl) ?_
      refine lv_aload_n hx hb d_R_append_17 rfl (lv_at hl 0 rfl) ?_
      refine fv_get (ci := 5) (v := .ref (ad 1)) (C := R_R) (T := F_R) (N := 3) hx hb hts (by decide +kernel) hown hK hP 0 0 rfl rfl rfl 0 (by decide) (hts (.fieldLink R_R 9 "PartShelves$PriceRows" "ages" "[I") (by decide +kernel)) (fun _ h9 => h9) rfl d_R_append_18 ?_
      refine lv_aload_n hx hb d_R_append_21 rfl (lv_at hl 0 rfl) ?_
      refine fv_get (ci := 5) (v := .int (nI rn)) (C := R_R) (T := F_R) (N := 3) hx hb hts (by decide +kernel) hown hK hP 0 0 rfl rfl rfl 2 (by decide) (hts (.fieldLink R_R 19 "PartShelves$PriceRows" "count" "I") (by decide +kernel)) (fun _ h9 => h9) rfl d_R_append_22 ?_
      refine lv_iconst (v := nI 1) hx hb d_R_append_25 (by decide) ?_
      refine nv_isub hx hb d_R_append_26 (by omega) ?_
      refine fa_iald hx hb hK hP 0 1 0 rfl rfl rfl (by omega) (by decide) d_R_append_27 ?_
      refine lv_icmp_gt (tgt := 33) hx hb d_R_append_28 (by decide) (fun hc => ?_) (fun hc => ?_)
      · have hC : rowOk ra rn x := ⟨by omega, by first | (left; omega) | (right; exact hc)⟩
        refine lv_aload_n hx hb d_R_append_33 rfl (lv_at hl 0 rfl) ?_
        refine fv_get (ci := 5) (v := .ref (ad 1)) (C := R_R) (T := F_R) (N := 3) hx hb hts (by decide +kernel) hown hK hP 0 0 rfl rfl rfl 0 (by decide) (hts (.fieldLink R_R 9 "PartShelves$PriceRows" "ages" "[I") (by decide +kernel)) (fun _ h9 => h9) rfl d_R_append_34 ?_
        refine lv_aload_n hx hb d_R_append_37 rfl (lv_at hl 0 rfl) ?_
        refine fv_get (ci := 5) (v := .int (nI rn)) (C := R_R) (T := F_R) (N := 3) hx hb hts (by decide +kernel) hown hK hP 0 0 rfl rfl rfl 2 (by decide) (hts (.fieldLink R_R 19 "PartShelves$PriceRows" "count" "I") (by decide +kernel)) (fun _ h9 => h9) rfl d_R_append_38 ?_
        refine lv_iload_n hx hb d_R_append_41 rfl (lv_at hl 1 rfl) ?_
        refine fa_iast hx hb hK hP hD hS 0 1 0 rfl rfl rfl (by omega) (by decide) d_R_append_42 (fun H locs hP hD hS => ?_)
        have hP : va_P D cls (fl [(wR kC ad (upd ra rn x) rc rn)]) H := hP
        have hD : va_D A (fl [(wR kC ad (upd ra rn x) rc rn)]) := hD
        refine lv_aload_n hx hb d_R_append_43 rfl (lv_at hl 0 rfl) ?_
        refine fv_get (ci := 5) (v := .ref (ad 2)) (C := R_R) (T := F_R) (N := 3) hx hb hts (by decide +kernel) hown hK hP 0 0 rfl rfl rfl 1 (by decide) (hts (.fieldLink R_R 15 "PartShelves$PriceRows" "cents" "[J") (by decide +kernel)) (fun _ h9 => h9) rfl d_R_append_44 ?_
        refine lv_aload_n hx hb d_R_append_47 rfl (lv_at hl 0 rfl) ?_
        refine fv_get (ci := 5) (v := .int (nI rn)) (C := R_R) (T := F_R) (N := 3) hx hb hts (by decide +kernel) hown hK hP 0 0 rfl rfl rfl 2 (by decide) (hts (.fieldLink R_R 19 "PartShelves$PriceRows" "count" "I") (by decide +kernel)) (fun _ h9 => h9) rfl d_R_append_48 ?_
        refine lv_lload_n hx hb d_R_append_51 rfl (lv_at hl 2 rfl) ?_
        refine fa_last hx hb hK hP hD hS 0 2 1 rfl rfl rfl (by omega) (by decide) d_R_append_52 (fun H locs hP hD hS => ?_)
        have hP : va_P D cls (fl [(wR kC ad (upd ra rn x) (vp_updL rc rn v) rn)]) H := hP
        have hD : va_D A (fl [(wR kC ad (upd ra rn x) (vp_updL rc rn v) rn)]) := hD
        refine lv_aload_n hx hb d_R_append_53 rfl (lv_at hl 0 rfl) ?_
        refine lv_dup hx hb d_R_append_54 rfl ?_
        refine fv_get (ci := 5) (v := .int (nI rn)) (C := R_R) (T := F_R) (N := 3) hx hb hts (by decide +kernel) hown hK hP 0 0 rfl rfl rfl 2 (by decide) (hts (.fieldLink R_R 19 "PartShelves$PriceRows" "count" "I") (by decide +kernel)) (fun _ h9 => h9) rfl d_R_append_55 ?_
        refine lv_iconst (v := nI 1) hx hb d_R_append_58 (by decide) ?_
        refine nv_iadd hx hb d_R_append_59 ?_
        refine fv_put (ci := 5) (v := .int (nI (rn + 1))) (ty := (.int)) (C := R_R) (T := F_R) (N := 3) hx hb hts (by decide +kernel) t_R t_R_ok n_R hown hK hP hD hS 0 0 rfl rfl rfl 2 (by decide) (hts (.fieldLink R_R 19 "PartShelves$PriceRows" "count" "I") (by decide +kernel)) (fun _ h9 => h9) rfl (by decide +kernel) (rfl) (rfl) (Nat.le_of_ble_eq_true rfl) d_R_append_60 (fun H locs hP hD hS => ?_)
        have hP : va_P D cls (fl [(wR kC ad (upd ra rn x) (vp_updL rc rn v) (rn + 1))]) H := hP
        have hD : va_D A (fl [(wR kC ad (upd ra rn x) (vp_updL rc rn v) (rn + 1))]) := hD
        refine lv_iconst (v := nI 1) hx hb d_R_append_63 (by decide) ?_
        have ew7 : (upd ra rn x) = (if rowOk ra rn x then upd ra rn x else ra) := (if_pos hC).symm
        have hP : va_P D cls (fl [(wR kC ad (if rowOk ra rn x then upd ra rn x else ra) (vp_updL rc rn v) (rn + 1))]) H := by rw [← ew7]; exact hP
        have hD : va_D A (fl [(wR kC ad (if rowOk ra rn x then upd ra rn x else ra) (vp_updL rc rn v) (rn + 1))]) := by rw [← ew7]; exact hD
        have ew8 : (vp_updL rc rn v) = (if rowOk ra rn x then vp_updL rc rn v else rc) := (if_pos hC).symm
        have hP : va_P D cls (fl [(wR kC ad (if rowOk ra rn x then upd ra rn x else ra) (if rowOk ra rn x then vp_updL rc rn v else rc) (rn + 1))]) H := by rw [← ew8]; exact hP
        have hD : va_D A (fl [(wR kC ad (if rowOk ra rn x then upd ra rn x else ra) (if rowOk ra rn x then vp_updL rc rn v else rc) (rn + 1))]) := by rw [← ew8]; exact hD
        have ew9 : (rn + 1) = (if rowOk ra rn x then rn + 1 else rn) := (if_pos hC).symm
        have hP : va_P D cls (fl [(wR kC ad (if rowOk ra rn x then upd ra rn x else ra) (if rowOk ra rn x then vp_updL rc rn v else rc) (if rowOk ra rn x then rn + 1 else rn))]) H := by rw [← ew9]; exact hP
        have hD : va_D A (fl [(wR kC ad (if rowOk ra rn x then upd ra rn x else ra) (if rowOk ra rn x then vp_updL rc rn v else rc) (if rowOk ra rn x then rn + 1 else rn))]) := by rw [← ew9]; exact hD
        exact W.zret (v := nI 1) hx hb hr (nar_b (by first | exact Or.inl rfl | exact Or.inr rfl | exact bI_01)) (fun t ht hW => by subst hAe; exact ⟨⟨(nI 1), (), rfl, (bI_t hC).symm, by rw [ht]; exact hP, va_K.moved hW.alike hK, hD⟩, hS.F ht⟩) (by subst hAe; exact hS.2.2) d_R_append_64
      · have hC : ¬ rowOk ra rn x := fun q => by first | (have := q.1; omega) | (rcases q.2 with q2 | q2; omega; exact hc q2)
        refine lv_iconst (v := nI 0) hx hb d_R_append_31 (by decide) ?_
        have ew10 : ra = (if rowOk ra rn x then upd ra rn x else ra) := (if_neg hC).symm
        have hP : va_P D cls (fl [(wR kC ad (if rowOk ra rn x then upd ra rn x else ra) rc rn)]) s.heap := by rw [← ew10]; exact hP
        have hD : va_D A (fl [(wR kC ad (if rowOk ra rn x then upd ra rn x else ra) rc rn)]) := by rw [← ew10]; exact hD
        have ew11 : rc = (if rowOk ra rn x then vp_updL rc rn v else rc) := (if_neg hC).symm
        have hP : va_P D cls (fl [(wR kC ad (if rowOk ra rn x then upd ra rn x else ra) (if rowOk ra rn x then vp_updL rc rn v else rc) rn)]) s.heap := by rw [← ew11]; exact hP
        have hD : va_D A (fl [(wR kC ad (if rowOk ra rn x then upd ra rn x else ra) (if rowOk ra rn x then vp_updL rc rn v else rc) rn)]) := by rw [← ew11]; exact hD
        have ew12 : rn = (if rowOk ra rn x then rn + 1 else rn) := (if_neg hC).symm
        have hP : va_P D cls (fl [(wR kC ad (if rowOk ra rn x then upd ra rn x else ra) (if rowOk ra rn x then vp_updL rc rn v else rc) (if rowOk ra rn x then rn + 1 else rn))]) s.heap := by rw [← ew12]; exact hP
        have hD : va_D A (fl [(wR kC ad (if rowOk ra rn x then upd ra rn x else ra) (if rowOk ra rn x then vp_updL rc rn v else rc) (if rowOk ra rn x then rn + 1 else rn))]) := by rw [← ew12]; exact hD
        exact W.zret (v := nI 0) hx hb hr (nar_b (by first | exact Or.inl rfl | exact Or.inr rfl | exact bI_01)) (fun t ht hW => by subst hAe; exact ⟨⟨(nI 0), (), rfl, (bI_f hC).symm, by rw [ht]; exact hP, va_K.moved hW.alike hK, hD⟩, hS.F ht⟩) (by subst hAe; exact hS.2.2) d_R_append_32

/-- a part -/
def wQ (h : Nat) (ki : Nat) (ag : Nat) (se : Nat) (sa : Nat) (dy : Nat) (ho : Int32) (pe : Int32) : va_W := [(h, .inr (4, [.int (nI ki), .int (nI ag), .long (lN se), .int (nI sa), .int (nI dy), .int (ho), .int (pe)]))]
/-- what a part is on a day -/
abbrev stOn (sa dy td : Nat) : Nat := if sa = 1 ∧ dy < td then 0 else sa
abbrev b_Q_stateOn : ByteArray := prog_5_method_2_code
def y_Q_stateOn : MethodName := ⟨"PartShelves$Part", "stateOn", "(I)I"⟩
theorem d_Q_stateOn_0 : decode b_Q_stateOn 0 = .ok (.aload_n 0, 1) := by decide +kernel
theorem d_Q_stateOn_1 : decode b_Q_stateOn 1 = .ok (.getfield 9, 3) := by decide +kernel
theorem d_Q_stateOn_4 : decode b_Q_stateOn 4 = .ok (.iconst 1, 1) := by decide +kernel
theorem d_Q_stateOn_5 : decode b_Q_stateOn 5 = .ok (.if_icmp .ne 15, 3) := by decide +kernel
theorem d_Q_stateOn_8 : decode b_Q_stateOn 8 = .ok (.aload_n 0, 1) := by decide +kernel
theorem d_Q_stateOn_9 : decode b_Q_stateOn 9 = .ok (.getfield 15, 3) := by decide +kernel
theorem d_Q_stateOn_12 : decode b_Q_stateOn 12 = .ok (.iload_n 1, 1) := by decide +kernel
theorem d_Q_stateOn_13 : decode b_Q_stateOn 13 = .ok (.if_icmp .ge 7, 3) := by decide +kernel
theorem d_Q_stateOn_16 : decode b_Q_stateOn 16 = .ok (.iconst 0, 1) := by decide +kernel
theorem d_Q_stateOn_17 : decode b_Q_stateOn 17 = .ok (.goto 7, 3) := by decide +kernel
theorem d_Q_stateOn_20 : decode b_Q_stateOn 20 = .ok (.aload_n 0, 1) := by decide +kernel
theorem d_Q_stateOn_21 : decode b_Q_stateOn 21 = .ok (.getfield 9, 3) := by decide +kernel
theorem d_Q_stateOn_24 : decode b_Q_stateOn 24 = .ok (.ireturn, 1) := by decide +kernel
def w_Q_stateOn : List Cond := .code y_Q_stateOn b_Q_stateOn 2 (some .int) :: ([.fieldLink "PartShelves$Part" 9 "PartShelves$Part" "state" "I", .fieldLink "PartShelves$Part" 15 "PartShelves$Part" "day" "I"] ++ u_ws R_Q F_Q 7)
set_option maxHeartbeats 4000000 in
set_option maxRecDepth 100000 in
theorem c_Q_stOn (l : Launch) (D : va_G) (kC : Nat → ClassId) (h : Nat) (ki : Nat) (ag : Nat) (se : Nat) (sa : Nat) (dy : Nat) (ho : Int32) (pe : Int32) (td : Nat) (hsa : sa ≤ 3) (hdy : dy ≤ 100000) (htd : td ≤ 100000) : Met l y_Q_stateOn w_Q_stateOn ({ frames := 0, cells := 0, slots := 0, locals := 0 } : Room) (gPr cls D (tyL kC) [.ref h, .int (nI td)] (fl [(wQ h ki ag se sa dy ho pe)])) (vp_Si (fun r => r = nI (stOn sa dy td))) 0 0 (fun _ => False) := by
  refine Met.ofW (cc := b_Q_stateOn) (maxL := 2) (ret := (some .int)) (by decide) rfl ?_
  intro p e s m args below meth c s₁ B hml hv
  obtain ⟨rfl, hP, hK⟩ := hv
  have hx := B.exec
  have hb := B.bytes
  have hr := B.returns
  have hts := atoms_spec (ws := w_Q_stateOn) B.pre
  have hown : s.vm.findClass R_Q = some m.cls := findClass_of_methodNamed B.named
  have hlocks := B.notSynchronized
  have hl := lv_entry ([.ref h, .int (nI td)]) (n := 2) (Nat.le_of_ble_eq_true rfl)
  rw [lg_entry_eq]
  generalize (lg_sl ([.ref h, .int (nI td)]) ++ List.replicate (2 - (lg_sl ([.ref h, .int (nI td)])).length) Slot.unset).toArray = ls at hl ⊢
  have hl : lv_has ls 2 [(0, .ref h), (1, .int (nI td))] := hl
  refine lv_aload_n hx hb d_Q_stateOn_0 rfl (lv_at hl 0 rfl) ?_
  refine fv_get (ci := 4) (v := .int (nI sa)) (C := R_Q) (T := F_Q) (N := 7) hx hb hts (by decide +kernel) hown hK hP 0 0 rfl rfl rfl 3 (by decide) (hts (.fieldLink R_Q 9 "PartShelves$Part" "state" "I") (by decide +kernel)) (fun _ h9 => h9) rfl d_Q_stateOn_1 ?_
  refine lv_iconst (v := nI 1) hx hb d_Q_stateOn_4 (by decide) ?_
  refine nv_icmp_ne (tgt := 20) hx hb d_Q_stateOn_5 (by decide) (by omega) (by omega) (fun h1 => ?_) (fun h1 => ?_)
  · refine lv_aload_n hx hb d_Q_stateOn_20 rfl (lv_at hl 0 rfl) ?_
    refine fv_get (ci := 4) (v := .int (nI sa)) (C := R_Q) (T := F_Q) (N := 7) hx hb hts (by decide +kernel) hown hK hP 0 0 rfl rfl rfl 3 (by decide) (hts (.fieldLink R_Q 9 "PartShelves$Part" "state" "I") (by decide +kernel)) (fun _ h9 => h9) rfl d_Q_stateOn_21 ?_
    exact W.iret (v := nI sa) hx hb hr (fun t ht hW => ⟨_, rfl, congrArg nI (by first | exact (if_pos ⟨h1, h2⟩).symm | exact (if_neg (fun q => h1 q.1)).symm | exact (if_neg (fun q => by have := q.2; omega)).symm), ht⟩) t_nil d_Q_stateOn_24
  · refine lv_aload_n hx hb d_Q_stateOn_8 rfl (lv_at hl 0 rfl) ?_
    refine fv_get (ci := 4) (v := .int (nI dy)) (C := R_Q) (T := F_Q) (N := 7) hx hb hts (by decide +kernel) hown hK hP 0 0 rfl rfl rfl 4 (by decide) (hts (.fieldLink R_Q 15 "PartShelves$Part" "day" "I") (by decide +kernel)) (fun _ h9 => h9) rfl d_Q_stateOn_9 ?_
    refine lv_iload_n hx hb d_Q_stateOn_12 rfl (lv_at hl 1 rfl) ?_
    refine nv_icmp_ge (tgt := 20) hx hb d_Q_stateOn_13 (by decide) (by omega) (by omega) (fun h2 => ?_) (fun h2 => ?_)
    · refine lv_aload_n hx hb d_Q_stateOn_20 rfl (lv_at hl 0 rfl) ?_
      refine fv_get (ci := 4) (v := .int (nI sa)) (C := R_Q) (T := F_Q) (N := 7) hx hb hts (by decide +kernel) hown hK hP 0 0 rfl rfl rfl 3 (by decide) (hts (.fieldLink R_Q 9 "PartShelves$Part" "state" "I") (by decide +kernel)) (fun _ h9 => h9) rfl d_Q_stateOn_21 ?_
      exact W.iret (v := nI sa) hx hb hr (fun t ht hW => ⟨_, rfl, congrArg nI (by first | exact (if_pos ⟨h1, h2⟩).symm | exact (if_neg (fun q => h1 q.1)).symm | exact (if_neg (fun q => by have := q.2; omega)).symm), ht⟩) t_nil d_Q_stateOn_24
    · refine lv_iconst (v := nI 0) hx hb d_Q_stateOn_16 (by decide) ?_
      refine lv_goto (tgt := 24) hx hb d_Q_stateOn_17 (by decide) ?_
      exact W.iret (v := nI 0) hx hb hr (fun t ht hW => ⟨_, rfl, congrArg nI (by first | exact (if_pos ⟨h1, h2⟩).symm | exact (if_neg (fun q => h1 q.1)).symm | exact (if_neg (fun q => by have := q.2; omega)).symm), ht⟩) t_nil d_Q_stateOn_24

abbrev b_Q_isFreeFor : ByteArray := prog_5_method_3_code
def y_Q_isFreeFor : MethodName := ⟨"PartShelves$Part", "isFreeFor", "(II)Z"⟩
theorem d_Q_isFreeFor_0 : decode b_Q_isFreeFor 0 = .ok (.aload_n 0, 1) := by decide +kernel
theorem d_Q_isFreeFor_1 : decode b_Q_isFreeFor 1 = .ok (.iload_n 2, 1) := by decide +kernel
theorem d_Q_isFreeFor_2 : decode b_Q_isFreeFor 2 = .ok (.invokevirtual 34, 3) := by decide +kernel
theorem d_Q_isFreeFor_5 : decode b_Q_isFreeFor 5 = .ok (.istore_n 3, 1) := by decide +kernel
theorem d_Q_isFreeFor_6 : decode b_Q_isFreeFor 6 = .ok (.iload_n 3, 1) := by decide +kernel
theorem d_Q_isFreeFor_7 : decode b_Q_isFreeFor 7 = .ok (.ifCond .eq 16, 3) := by decide +kernel
theorem d_Q_isFreeFor_10 : decode b_Q_isFreeFor 10 = .ok (.iload_n 3, 1) := by decide +kernel
theorem d_Q_isFreeFor_11 : decode b_Q_isFreeFor 11 = .ok (.iconst 1, 1) := by decide +kernel
theorem d_Q_isFreeFor_12 : decode b_Q_isFreeFor 12 = .ok (.if_icmp .ne 15, 3) := by decide +kernel
theorem d_Q_isFreeFor_15 : decode b_Q_isFreeFor 15 = .ok (.aload_n 0, 1) := by decide +kernel
theorem d_Q_isFreeFor_16 : decode b_Q_isFreeFor 16 = .ok (.getfield 18, 3) := by decide +kernel
theorem d_Q_isFreeFor_19 : decode b_Q_isFreeFor 19 = .ok (.iload_n 1, 1) := by decide +kernel
theorem d_Q_isFreeFor_20 : decode b_Q_isFreeFor 20 = .ok (.if_icmp .ne 7, 3) := by decide +kernel
theorem d_Q_isFreeFor_23 : decode b_Q_isFreeFor 23 = .ok (.iconst 1, 1) := by decide +kernel
theorem d_Q_isFreeFor_24 : decode b_Q_isFreeFor 24 = .ok (.goto 4, 3) := by decide +kernel
theorem d_Q_isFreeFor_27 : decode b_Q_isFreeFor 27 = .ok (.iconst 0, 1) := by decide +kernel
theorem d_Q_isFreeFor_28 : decode b_Q_isFreeFor 28 = .ok (.ireturn, 1) := by decide +kernel
def w_Q_isFreeFor : List Cond := .code y_Q_isFreeFor b_Q_isFreeFor 4 (some .boolean) :: ([.methodLink "PartShelves$Part" 34 ⟨"PartShelves$Part", "stateOn", "(I)I"⟩, .instanceMethod ⟨"PartShelves$Part", "stateOn", "(I)I"⟩, .selects "PartShelves$Part" ⟨"PartShelves$Part", "stateOn", "(I)I"⟩ ⟨"PartShelves$Part", "stateOn", "(I)I"⟩, .initialized "PartShelves$Part", .code ⟨"PartShelves$Part", "stateOn", "(I)I"⟩ prog_5_method_2_code 2 (some .int), .fieldLink "PartShelves$Part" 9 "PartShelves$Part" "state" "I", .fieldLink "PartShelves$Part" 15 "PartShelves$Part" "day" "I", .fieldLink "PartShelves$Part" 18 "PartShelves$Part" "holder" "I"] ++ u_ws R_Q F_Q 7)
set_option maxRecDepth 20000 in
theorem g_Q_free_st : GoodIn w_Q_isFreeFor (wsV R_Q 34 R_Q y_Q_stateOn w_Q_stateOn) := goodIn_p _ [5] rfl (by decide +kernel)
theorem stOn_le {sa dy td : Nat} (h : sa ≤ 3) : stOn sa dy td ≤ 3 := by unfold stOn; split <;> omega
set_option maxHeartbeats 4000000 in
set_option maxRecDepth 100000 in
theorem c_Q_free (l : Launch) (D : va_G) (kC : Nat → ClassId) (h : Nat) (ki : Nat) (ag : Nat) (se : Nat) (sa : Nat) (dy : Nat) (ho : Int32) (pe : Int32) (k : Nat) (td : Nat) (hsa : sa ≤ 3) (hdy : dy ≤ 100000) (htd : td ≤ 100000) : Met l y_Q_isFreeFor w_Q_isFreeFor ({ frames := 1, cells := 0, slots := 0, locals := 21 } : Room) (gPr cls D (tyL kC) [.ref h, .int (nI k), .int (nI td)] (fl [(wQ h ki ag se sa dy ho pe)])) (vp_Si (fun r => r = bI (stOn sa dy td = 0 ∨ (stOn sa dy td = 1 ∧ ho = nI k)))) 0 0 (fun _ => False) := by
  refine Met.ofW (cc := b_Q_isFreeFor) (maxL := 4) (ret := (some .boolean)) (by decide) rfl ?_
  intro p e s m args below meth c s₁ B hml hv
  obtain ⟨rfl, hP, hK⟩ := hv
  have hx := B.exec
  have hb := B.bytes
  have hr := B.returns
  have hts := atoms_spec (ws := w_Q_isFreeFor) B.pre
  have hown : s.vm.findClass R_Q = some m.cls := findClass_of_methodNamed B.named
  have hlocks := B.notSynchronized
  have hl := lv_entry ([.ref h, .int (nI k), .int (nI td)]) (n := 4) (Nat.le_of_ble_eq_true rfl)
  rw [lg_entry_eq]
  generalize (lg_sl ([.ref h, .int (nI k), .int (nI td)]) ++ List.replicate (4 - (lg_sl ([.ref h, .int (nI k), .int (nI td)])).length) Slot.unset).toArray = ls at hl ⊢
  have hl : lv_has ls 4 [(0, .ref h), (1, .int (nI k)), (2, .int (nI td))] := hl
  refine lv_aload_n hx hb d_Q_isFreeFor_0 rfl (lv_at hl 0 rfl) ?_
  refine lv_iload_n hx hb d_Q_isFreeFor_1 rfl (lv_at hl 2 rfl) ?_
  refine r_calli (W.runV (As := [.int (nI td)]) (rest := []) ⟨hx, hb, hml, hown, hts⟩ (c_Q_stOn l D kC h ki ag se sa dy ho pe td (hsa) (hdy) (htd)) (cwV 1 hts g_Q_free_st rfl rfl rfl (by decide +kernel) ⟨Nat.le_of_ble_eq_true rfl, Nat.le_of_ble_eq_true rfl⟩) (r_preV (f_recv (ci := 4) (q0 := 0) hK hP 0 rfl rfl rfl) hK hP) rfl rfl hl.1 rfl (lv_room (Nat.le_of_ble_eq_true rfl)) d_Q_isFreeFor_2 ⟨Nat.le_of_ble_eq_true rfl, Nat.le_of_ble_eq_true rfl⟩) ?_
  refine lv_istore_n (lv' := [(3, .int (nI (stOn sa dy td))), (0, .ref h), (1, .int (nI k)), (2, .int (nI td))]) hx hb d_Q_isFreeFor_5 rfl hl (by decide) rfl (fun ls hl => ?_)
  refine lv_iload_n hx hb d_Q_isFreeFor_6 rfl (lv_at hl 0 rfl) ?_
  refine nv_if_eq (tgt := 23) hx hb d_Q_isFreeFor_7 (by decide) (Nat.lt_of_le_of_lt (stOn_le hsa) (by decide)) (fun h1 => ?_) (fun h1 => ?_)
  · refine lv_iconst (v := nI 1) hx hb d_Q_isFreeFor_23 (by decide) ?_
    refine lv_goto (tgt := 28) hx hb d_Q_isFreeFor_24 (by decide) ?_
    exact W.zret (v := nI 1) hx hb hr (nar_b (by first | exact Or.inl rfl | exact Or.inr rfl | exact bI_01)) (fun t ht hW => ⟨_, rfl, (bI_t (by first | exact Or.inl h1 | exact Or.inr ⟨h2, h3⟩)).symm, ht⟩) t_nil d_Q_isFreeFor_28
  · refine lv_iload_n hx hb d_Q_isFreeFor_10 rfl (lv_at hl 0 rfl) ?_
    refine lv_iconst (v := nI 1) hx hb d_Q_isFreeFor_11 (by decide) ?_
    refine nv_icmp_ne (tgt := 27) hx hb d_Q_isFreeFor_12 (by decide) (Nat.lt_of_le_of_lt (stOn_le hsa) (by decide)) (by omega) (fun h2 => ?_) (fun h2 => ?_)
    · refine lv_iconst (v := nI 0) hx hb d_Q_isFreeFor_27 (by decide) ?_
      exact W.zret (v := nI 0) hx hb hr (nar_b (by first | exact Or.inl rfl | exact Or.inr rfl | exact bI_01)) (fun t ht hW => ⟨_, rfl, (bI_f (fun q => by first | exact h3 (q.elim (fun z => absurd z h1) (fun z => z.2)) | exact h2 (q.elim (fun z => absurd z h1) (fun z => z.1)))).symm, ht⟩) t_nil d_Q_isFreeFor_28
    · refine lv_aload_n hx hb d_Q_isFreeFor_15 rfl (lv_at hl 1 rfl) ?_
      refine fv_get (ci := 4) (v := .int ho) (C := R_Q) (T := F_Q) (N := 7) hx hb hts (by decide +kernel) hown hK hP 0 0 rfl rfl rfl 5 (by decide) (hts (.fieldLink R_Q 18 "PartShelves$Part" "holder" "I") (by decide +kernel)) (fun _ h9 => h9) rfl d_Q_isFreeFor_16 ?_
      refine lv_iload_n hx hb d_Q_isFreeFor_19 rfl (lv_at hl 2 rfl) ?_
      refine lv_icmp_ne (tgt := 27) hx hb d_Q_isFreeFor_20 (by decide) (fun h3 => ?_) (fun h3 => ?_)
      · refine lv_iconst (v := nI 0) hx hb d_Q_isFreeFor_27 (by decide) ?_
        exact W.zret (v := nI 0) hx hb hr (nar_b (by first | exact Or.inl rfl | exact Or.inr rfl | exact bI_01)) (fun t ht hW => ⟨_, rfl, (bI_f (fun q => by first | exact h3 (q.elim (fun z => absurd z h1) (fun z => z.2)) | exact h2 (q.elim (fun z => absurd z h1) (fun z => z.1)))).symm, ht⟩) t_nil d_Q_isFreeFor_28
      · refine lv_iconst (v := nI 1) hx hb d_Q_isFreeFor_23 (by decide) ?_
        refine lv_goto (tgt := 28) hx hb d_Q_isFreeFor_24 (by decide) ?_
        exact W.zret (v := nI 1) hx hb hr (nar_b (by first | exact Or.inl rfl | exact Or.inr rfl | exact bI_01)) (fun t ht hW => ⟨_, rfl, (bI_t (by first | exact Or.inl h1 | exact Or.inr ⟨h2, h3⟩)).symm, ht⟩) t_nil d_Q_isFreeFor_28

abbrev b_Q_holdFor : ByteArray := prog_5_method_4_code
def y_Q_holdFor : MethodName := ⟨"PartShelves$Part", "holdFor", "(II)V"⟩
theorem d_Q_holdFor_0 : decode b_Q_holdFor 0 = .ok (.aload_n 0, 1) := by decide +kernel
theorem d_Q_holdFor_1 : decode b_Q_holdFor 1 = .ok (.iconst 1, 1) := by decide +kernel
theorem d_Q_holdFor_2 : decode b_Q_holdFor 2 = .ok (.putfield 9, 3) := by decide +kernel
theorem d_Q_holdFor_5 : decode b_Q_holdFor 5 = .ok (.aload_n 0, 1) := by decide +kernel
theorem d_Q_holdFor_6 : decode b_Q_holdFor 6 = .ok (.iload_n 1, 1) := by decide +kernel
theorem d_Q_holdFor_7 : decode b_Q_holdFor 7 = .ok (.putfield 18, 3) := by decide +kernel
theorem d_Q_holdFor_10 : decode b_Q_holdFor 10 = .ok (.aload_n 0, 1) := by decide +kernel
theorem d_Q_holdFor_11 : decode b_Q_holdFor 11 = .ok (.iload_n 2, 1) := by decide +kernel
theorem d_Q_holdFor_12 : decode b_Q_holdFor 12 = .ok (.putfield 15, 3) := by decide +kernel
theorem d_Q_holdFor_15 : decode b_Q_holdFor 15 = .ok (.return_, 1) := by decide +kernel
def w_Q_holdFor : List Cond := .code y_Q_holdFor b_Q_holdFor 3 none :: ([.fieldLink "PartShelves$Part" 9 "PartShelves$Part" "state" "I", .fieldLink "PartShelves$Part" 18 "PartShelves$Part" "holder" "I", .fieldLink "PartShelves$Part" 15 "PartShelves$Part" "day" "I"] ++ u_ws R_Q F_Q 7)
set_option maxHeartbeats 4000000 in
set_option maxRecDepth 100000 in
theorem c_Q_hold (l : Launch) (D : va_G) (kC : Nat → ClassId) (h : Nat) (ki : Nat) (ag : Nat) (se : Nat) (sa : Nat) (dy : Nat) (ho : Int32) (pe : Int32) (k : Nat) (y : Nat) (sz : Nat) : Met l y_Q_holdFor w_Q_holdFor ({ frames := 0, cells := 0, slots := 0, locals := 0 } : Room) (gPre cls D (tyL kC) [.ref h, .int (nI k), .int (nI y)] (fl [(wQ h ki ag se sa dy ho pe)]) sz) (gQv cls D (tyL kC) (fl [(wQ h ki ag se sa dy ho pe)]) sz (fl [(wQ h ki ag se 1 y (nI k) pe)])) 0 0 (va_A (fl [(wQ h ki ag se sa dy ho pe)]) sz) := by
  refine Met.ofW (cc := b_Q_holdFor) (maxL := 3) (ret := none) (by decide) rfl ?_
  intro p e s m args below meth c s₁ B hml hv
  obtain ⟨rfl, hsz, hP, hK, hD0⟩ := hv
  have hx := B.exec
  have hb := B.bytes
  have hr := B.returns
  have hts := atoms_spec (ws := w_Q_holdFor) B.pre
  have hown : s.vm.findClass R_Q = some m.cls := findClass_of_methodNamed B.named
  have hlocks := B.notSynchronized
  subst hsz
  obtain ⟨A, hAe⟩ : ∃ A : Nat → Prop, A = va_A (fl [(wQ h ki ag se sa dy ho pe)]) s.heap.size := ⟨_, rfl⟩
  have hD : va_D A (fl [(wQ h ki ag se sa dy ho pe)]) := by rw [hAe]; exact hD0.self
  have hA : ∀ q : Nat, s.heap.size ≤ q → A q := fun q h => by rw [hAe]; exact Or.inr h
  have hS : va_S A s.heap s.heap [] := va_S.rf
  have hl := lv_entry ([.ref h, .int (nI k), .int (nI y)]) (n := 3) (Nat.le_of_ble_eq_true rfl)
  rw [lg_entry_eq]
  generalize (lg_sl ([.ref h, .int (nI k), .int (nI y)]) ++ List.replicate (3 - (lg_sl ([.ref h, .int (nI k), .int (nI y)])).length) Slot.unset).toArray = ls at hl ⊢
  have hl : lv_has ls 3 [(0, .ref h), (1, .int (nI k)), (2, .int (nI y))] := hl
  refine lv_aload_n hx hb d_Q_holdFor_0 rfl (lv_at hl 0 rfl) ?_
  refine lv_iconst (v := nI 1) hx hb d_Q_holdFor_1 (by decide) ?_
  refine fv_put (ci := 4) (v := .int (nI 1)) (ty := (.int)) (C := R_Q) (T := F_Q) (N := 7) hx hb hts (by decide +kernel) t_Q t_Q_ok n_Q hown hK hP hD hS 0 0 rfl rfl rfl 3 (by decide) (hts (.fieldLink R_Q 9 "PartShelves$Part" "state" "I") (by decide +kernel)) (fun _ h9 => h9) rfl (by decide +kernel) (rfl) (rfl) (Nat.le_of_ble_eq_true rfl) d_Q_holdFor_2 (fun H locs hP hD hS => ?_)
  have hP : va_P D cls (fl [(wQ h ki ag se 1 dy ho pe)]) H := hP
  have hD : va_D A (fl [(wQ h ki ag se 1 dy ho pe)]) := hD
  refine lv_aload_n hx hb d_Q_holdFor_5 rfl (lv_at hl 0 rfl) ?_
  refine lv_iload_n hx hb d_Q_holdFor_6 rfl (lv_at hl 1 rfl) ?_
  refine fv_put (ci := 4) (v := .int (nI k)) (ty := (.int)) (C := R_Q) (T := F_Q) (N := 7) hx hb hts (by decide +kernel) t_Q t_Q_ok n_Q hown hK hP hD hS 0 0 rfl rfl rfl 5 (by decide) (hts (.fieldLink R_Q 18 "PartShelves$Part" "holder" "I") (by decide +kernel)) (fun _ h9 => h9) rfl (by decide +kernel) (rfl) (rfl) (Nat.le_of_ble_eq_true rfl) d_Q_holdFor_7 (fun H locs hP hD hS => ?_)
  have hP : va_P D cls (fl [(wQ h ki ag se 1 dy (nI k) pe)]) H := hP
  have hD : va_D A (fl [(wQ h ki ag se 1 dy (nI k) pe)]) := hD
  refine lv_aload_n hx hb d_Q_holdFor_10 rfl (lv_at hl 0 rfl) ?_
  refine lv_iload_n hx hb d_Q_holdFor_11 rfl (lv_at hl 2 rfl) ?_
  refine fv_put (ci := 4) (v := .int (nI y)) (ty := (.int)) (C := R_Q) (T := F_Q) (N := 7) hx hb hts (by decide +kernel) t_Q t_Q_ok n_Q hown hK hP hD hS 0 0 rfl rfl rfl 4 (by decide) (hts (.fieldLink R_Q 15 "PartShelves$Part" "day" "I") (by decide +kernel)) (fun _ h9 => h9) rfl (by decide +kernel) (rfl) (rfl) (Nat.le_of_ble_eq_true rfl) d_Q_holdFor_12 (fun H locs hP hD hS => ?_)
  have hP : va_P D cls (fl [(wQ h ki ag se 1 y (nI k) pe)]) H := hP
  have hD : va_D A (fl [(wQ h ki ag se 1 y (nI k) pe)]) := hD
  exact W.vret hx hb hr (fun t ht hW => by subst hAe; exact ⟨⟨(), rfl, trivial, by rw [ht]; exact hP, va_K.moved hW.alike hK, hD⟩, hS.F ht⟩) (by subst hAe; exact hS.2.2) d_Q_holdFor_15

abbrev b_Q_sellTo : ByteArray := prog_5_method_5_code
def y_Q_sellTo : MethodName := ⟨"PartShelves$Part", "sellTo", "(II)V"⟩
theorem d_Q_sellTo_0 : decode b_Q_sellTo 0 = .ok (.aload_n 0, 1) := by decide +kernel
theorem d_Q_sellTo_1 : decode b_Q_sellTo 1 = .ok (.iconst 2, 1) := by decide +kernel
theorem d_Q_sellTo_2 : decode b_Q_sellTo 2 = .ok (.putfield 9, 3) := by decide +kernel
theorem d_Q_sellTo_5 : decode b_Q_sellTo 5 = .ok (.aload_n 0, 1) := by decide +kernel
theorem d_Q_sellTo_6 : decode b_Q_sellTo 6 = .ok (.iload_n 1, 1) := by decide +kernel
theorem d_Q_sellTo_7 : decode b_Q_sellTo 7 = .ok (.putfield 21, 3) := by decide +kernel
theorem d_Q_sellTo_10 : decode b_Q_sellTo 10 = .ok (.aload_n 0, 1) := by decide +kernel
theorem d_Q_sellTo_11 : decode b_Q_sellTo 11 = .ok (.iload_n 2, 1) := by decide +kernel
theorem d_Q_sellTo_12 : decode b_Q_sellTo 12 = .ok (.putfield 15, 3) := by decide +kernel
theorem d_Q_sellTo_15 : decode b_Q_sellTo 15 = .ok (.return_, 1) := by decide +kernel
def w_Q_sellTo : List Cond := .code y_Q_sellTo b_Q_sellTo 3 none :: ([.fieldLink "PartShelves$Part" 9 "PartShelves$Part" "state" "I", .fieldLink "PartShelves$Part" 21 "PartShelves$Part" "person" "I", .fieldLink "PartShelves$Part" 15 "PartShelves$Part" "day" "I"] ++ u_ws R_Q F_Q 7)
set_option maxHeartbeats 4000000 in
set_option maxRecDepth 100000 in
theorem c_Q_sell (l : Launch) (D : va_G) (kC : Nat → ClassId) (h : Nat) (ki : Nat) (ag : Nat) (se : Nat) (sa : Nat) (dy : Nat) (ho : Int32) (pe : Int32) (k : Nat) (y : Nat) (sz : Nat) : Met l y_Q_sellTo w_Q_sellTo ({ frames := 0, cells := 0, slots := 0, locals := 0 } : Room) (gPre cls D (tyL kC) [.ref h, .int (nI k), .int (nI y)] (fl [(wQ h ki ag se sa dy ho pe)]) sz) (gQv cls D (tyL kC) (fl [(wQ h ki ag se sa dy ho pe)]) sz (fl [(wQ h ki ag se 2 y ho (nI k))])) 0 0 (va_A (fl [(wQ h ki ag se sa dy ho pe)]) sz) := by
  refine Met.ofW (cc := b_Q_sellTo) (maxL := 3) (ret := none) (by decide) rfl ?_
  intro p e s m args below meth c s₁ B hml hv
  obtain ⟨rfl, hsz, hP, hK, hD0⟩ := hv
  have hx := B.exec
  have hb := B.bytes
  have hr := B.returns
  have hts := atoms_spec (ws := w_Q_sellTo) B.pre
  have hown : s.vm.findClass R_Q = some m.cls := findClass_of_methodNamed B.named
  have hlocks := B.notSynchronized
  subst hsz
  obtain ⟨A, hAe⟩ : ∃ A : Nat → Prop, A = va_A (fl [(wQ h ki ag se sa dy ho pe)]) s.heap.size := ⟨_, rfl⟩
  have hD : va_D A (fl [(wQ h ki ag se sa dy ho pe)]) := by rw [hAe]; exact hD0.self
  have hA : ∀ q : Nat, s.heap.size ≤ q → A q := fun q h => by rw [hAe]; exact Or.inr h
  have hS : va_S A s.heap s.heap [] := va_S.rf
  have hl := lv_entry ([.ref h, .int (nI k), .int (nI y)]) (n := 3) (Nat.le_of_ble_eq_true rfl)
  rw [lg_entry_eq]
  generalize (lg_sl ([.ref h, .int (nI k), .int (nI y)]) ++ List.replicate (3 - (lg_sl ([.ref h, .int (nI k), .int (nI y)])).length) Slot.unset).toArray = ls at hl ⊢
  have hl : lv_has ls 3 [(0, .ref h), (1, .int (nI k)), (2, .int (nI y))] := hl
  refine lv_aload_n hx hb d_Q_sellTo_0 rfl (lv_at hl 0 rfl) ?_
  refine lv_iconst (v := nI 2) hx hb d_Q_sellTo_1 (by decide) ?_
  refine fv_put (ci := 4) (v := .int (nI 2)) (ty := (.int)) (C := R_Q) (T := F_Q) (N := 7) hx hb hts (by decide +kernel) t_Q t_Q_ok n_Q hown hK hP hD hS 0 0 rfl rfl rfl 3 (by decide) (hts (.fieldLink R_Q 9 "PartShelves$Part" "state" "I") (by decide +kernel)) (fun _ h9 => h9) rfl (by decide +kernel) (rfl) (rfl) (Nat.le_of_ble_eq_true rfl) d_Q_sellTo_2 (fun H locs hP hD hS => ?_)
  have hP : va_P D cls (fl [(wQ h ki ag se 2 dy ho pe)]) H := hP
  have hD : va_D A (fl [(wQ h ki ag se 2 dy ho pe)]) := hD
  refine lv_aload_n hx hb d_Q_sellTo_5 rfl (lv_at hl 0 rfl) ?_
  refine lv_iload_n hx hb d_Q_sellTo_6 rfl (lv_at hl 1 rfl) ?_
  refine fv_put (ci := 4) (v := .int (nI k)) (ty := (.int)) (C := R_Q) (T := F_Q) (N := 7) hx hb hts (by decide +kernel) t_Q t_Q_ok n_Q hown hK hP hD hS 0 0 rfl rfl rfl 6 (by decide) (hts (.fieldLink R_Q 21 "PartShelves$Part" "person" "I") (by decide +kernel)) (fun _ h9 => h9) rfl (by decide +kernel) (rfl) (rfl) (Nat.le_of_ble_eq_true rfl) d_Q_sellTo_7 (fun H locs hP hD hS => ?_)
  have hP : va_P D cls (fl [(wQ h ki ag se 2 dy ho (nI k))]) H := hP
  have hD : va_D A (fl [(wQ h ki ag se 2 dy ho (nI k))]) := hD
  refine lv_aload_n hx hb d_Q_sellTo_10 rfl (lv_at hl 0 rfl) ?_
  refine lv_iload_n hx hb d_Q_sellTo_11 rfl (lv_at hl 2 rfl) ?_
  refine fv_put (ci := 4) (v := .int (nI y)) (ty := (.int)) (C := R_Q) (T := F_Q) (N := 7) hx hb hts (by decide +kernel) t_Q t_Q_ok n_Q hown hK hP hD hS 0 0 rfl rfl rfl 4 (by decide) (hts (.fieldLink R_Q 15 "PartShelves$Part" "day" "I") (by decide +kernel)) (fun _ h9 => h9) rfl (by decide +kernel) (rfl) (rfl) (Nat.le_of_ble_eq_true rfl) d_Q_sellTo_12 (fun H locs hP hD hS => ?_)
  have hP : va_P D cls (fl [(wQ h ki ag se 2 y ho (nI k))]) H := hP
  have hD : va_D A (fl [(wQ h ki ag se 2 y ho (nI k))]) := hD
  exact W.vret hx hb hr (fun t ht hW => by subst hAe; exact ⟨⟨(), rfl, trivial, by rw [ht]; exact hP, va_K.moved hW.alike hK, hD⟩, hS.F ht⟩) (by subst hAe; exact hS.2.2) d_Q_sellTo_15

/-- an ask -/
def wA (h : Nat) (nu : Nat) (pr : Nat) (ce : Nat) (mi : Nat) (op : Int32) : va_W := [(h, .inr (1, [.int (nI nu), .int (nI pr), .long (lN ce), .long (lN mi), .int (op)]))]
abbrev b_A_standsBefore : ByteArray := prog_2_method_2_code
def y_A_standsBefore : MethodName := ⟨"PartShelves$Ask", "standsBefore", "(LPartShelves$Ask;)Z"⟩
theorem d_A_standsBefore_0 : decode b_A_standsBefore 0 = .ok (.aload_n 0, 1) := by decide +kernel
theorem d_A_standsBefore_1 : decode b_A_standsBefore 1 = .ok (.getfield 24, 3) := by decide +kernel
theorem d_A_standsBefore_4 : decode b_A_standsBefore 4 = .ok (.aload_n 1, 1) := by decide +kernel
theorem d_A_standsBefore_5 : decode b_A_standsBefore 5 = .ok (.getfield 24, 3) := by decide +kernel
theorem d_A_standsBefore_8 : decode b_A_standsBefore 8 = .ok (.lcmp, 1) := by decide +kernel
theorem d_A_standsBefore_9 : decode b_A_standsBefore 9 = .ok (.ifCond .lt 26, 3) := by decide +kernel
theorem d_A_standsBefore_12 : decode b_A_standsBefore 12 = .ok (.aload_n 0, 1) := by decide +kernel
theorem d_A_standsBefore_13 : decode b_A_standsBefore 13 = .ok (.getfield 24, 3) := by decide +kernel
theorem d_A_standsBefore_16 : decode b_A_standsBefore 16 = .ok (.aload_n 1, 1) := by decide +kernel
theorem d_A_standsBefore_17 : decode b_A_standsBefore 17 = .ok (.getfield 24, 3) := by decide +kernel
theorem d_A_standsBefore_20 : decode b_A_standsBefore 20 = .ok (.lcmp, 1) := by decide +kernel
theorem d_A_standsBefore_21 : decode b_A_standsBefore 21 = .ok (.ifCond .ne 18, 3) := by decide +kernel
theorem d_A_standsBefore_24 : decode b_A_standsBefore 24 = .ok (.aload_n 0, 1) := by decide +kernel
theorem d_A_standsBefore_25 : decode b_A_standsBefore 25 = .ok (.getfield 13, 3) := by decide +kernel
theorem d_A_standsBefore_28 : decode b_A_standsBefore 28 = .ok (.aload_n 1, 1) := by decide +kernel
theorem d_A_standsBefore_29 : decode b_A_standsBefore 29 = .ok (.getfield 13, 3) := by decide +kernel
theorem d_A_standsBefore_32 : decode b_A_standsBefore 32 = .ok (.if_icmp .ge 7, 3) := by decide +kernel
theorem d_A_standsBefore_35 : decode b_A_standsBefore 35 = .ok (.iconst 1, 1) := by decide +kernel
theorem d_A_standsBefore_36 : decode b_A_standsBefore 36 = .ok (.goto 4, 3) := by decide +kernel
theorem d_A_standsBefore_39 : decode b_A_standsBefore 39 = .ok (.iconst 0, 1) := by decide +kernel
theorem d_A_standsBefore_40 : decode b_A_standsBefore 40 = .ok (.ireturn, 1) := by decide +kernel
def w_A_standsBefore : List Cond := .code y_A_standsBefore b_A_standsBefore 2 (some .boolean) :: ([.fieldLink "PartShelves$Ask" 24 "PartShelves$Ask" "minute" "J", .fieldLink "PartShelves$Ask" 13 "PartShelves$Ask" "number" "I"] ++ u_ws R_A F_A 5)
set_option maxHeartbeats 4000000 in
set_option maxRecDepth 100000 in
theorem c_A_before (l : Launch) (D : va_G) (kC : Nat → ClassId) (h : Nat) (nu : Nat) (pr : Nat) (ce : Nat) (mi : Nat) (op : Int32) (h2 : Nat) (nu2 : Nat) (pr2 : Nat) (ce2 : Nat) (mi2 : Nat) (op2 : Int32) (hm : mi < 2 ^ 31) (hm2 : mi2 < 2 ^ 31) (hn : nu < 8) (hn2 : nu2 < 8) : Met l y_A_standsBefore w_A_standsBefore ({ frames := 0, cells := 0, slots := 0, locals := 0 } : Room) (gPr cls D (tyL kC) [.ref h, .ref h2] (fl [(wA h nu pr ce mi op), (wA h2 nu2 pr2 ce2 mi2 op2)])) (vp_Si (fun r => r = bI (mi < mi2 ∨ (mi = mi2 ∧ nu < nu2)))) 0 0 (fun _ => False) := by
  refine Met.ofW (cc := b_A_standsBefore) (maxL := 2) (ret := (some .boolean)) (by decide) rfl ?_
  intro p e s m args below meth c s₁ B hml hv
  obtain ⟨rfl, hP, hK⟩ := hv
  have hx := B.exec
  have hb := B.bytes
  have hr := B.returns
  have hts := atoms_spec (ws := w_A_standsBefore) B.pre
  have hown : s.vm.findClass R_A = some m.cls := findClass_of_methodNamed B.named
  have hlocks := B.notSynchronized
  have hl := lv_entry ([.ref h, .ref h2]) (n := 2) (Nat.le_of_ble_eq_true rfl)
  rw [lg_entry_eq]
  generalize (lg_sl ([.ref h, .ref h2]) ++ List.replicate (2 - (lg_sl ([.ref h, .ref h2])).length) Slot.unset).toArray = ls at hl ⊢
  have hl : lv_has ls 2 [(0, .ref h), (1, .ref h2)] := hl
  refine lv_aload_n hx hb d_A_standsBefore_0 rfl (lv_at hl 0 rfl) ?_
  refine fv_get (ci := 1) (v := .long (lN mi)) (C := R_A) (T := F_A) (N := 5) hx hb hts (by decide +kernel) hown hK hP 0 0 rfl rfl rfl 3 (by decide) (hts (.fieldLink R_A 24 "PartShelves$Ask" "minute" "J") (by decide +kernel)) (fun _ h9 => h9) rfl d_A_standsBefore_1 ?_
  refine lv_aload_n hx hb d_A_standsBefore_4 rfl (lv_at hl 1 rfl) ?_
  refine fv_get (ci := 1) (v := .long (lN mi2)) (C := R_A) (T := F_A) (N := 5) hx hb hts (by decide +kernel) hown hK hP 1 0 rfl rfl rfl 3 (by decide) (hts (.fieldLink R_A 24 "PartShelves$Ask" "minute" "J") (by decide +kernel)) (fun _ h9 => h9) rfl d_A_standsBefore_5 ?_
  refine lc_lt (tgt := 35) hx hb d_A_standsBefore_8 d_A_standsBefore_9 (by decide) (fun h1 => ?_) (fun h1 => ?_)
  · refine lv_iconst (v := nI 1) hx hb d_A_standsBefore_35 (by decide) ?_
    refine lv_goto (tgt := 40) hx hb d_A_standsBefore_36 (by decide) ?_
    exact W.zret (v := nI 1) hx hb hr (nar_b (by first | exact Or.inl rfl | exact Or.inr rfl | exact bI_01)) (fun t ht hW => ⟨_, rfl, (bI_t (by first | exact Or.inl ((lN_lt hm hm2).mp h1) | exact Or.inr ⟨(lN_eq hm hm2).mp h2, h3⟩)).symm, ht⟩) t_nil d_A_standsBefore_40
  · refine lv_aload_n hx hb d_A_standsBefore_12 rfl (lv_at hl 0 rfl) ?_
    refine fv_get (ci := 1) (v := .long (lN mi)) (C := R_A) (T := F_A) (N := 5) hx hb hts (by decide +kernel) hown hK hP 0 0 rfl rfl rfl 3 (by decide) (hts (.fieldLink R_A 24 "PartShelves$Ask" "minute" "J") (by decide +kernel)) (fun _ h9 => h9) rfl d_A_standsBefore_13 ?_
    refine lv_aload_n hx hb d_A_standsBefore_16 rfl (lv_at hl 1 rfl) ?_
    refine fv_get (ci := 1) (v := .long (lN mi2)) (C := R_A) (T := F_A) (N := 5) hx hb hts (by decide +kernel) hown hK hP 1 0 rfl rfl rfl 3 (by decide) (hts (.fieldLink R_A 24 "PartShelves$Ask" "minute" "J") (by decide +kernel)) (fun _ h9 => h9) rfl d_A_standsBefore_17 ?_
    refine lc_ne (tgt := 39) hx hb d_A_standsBefore_20 d_A_standsBefore_21 (by decide) (fun h2 => ?_) (fun h2 => ?_)
    · refine lv_iconst (v := nI 0) hx hb d_A_standsBefore_39 (by decide) ?_
      exact W.zret (v := nI 0) hx hb hr (nar_b (by first | exact Or.inl rfl | exact Or.inr rfl | exact bI_01)) (fun t ht hW => ⟨_, rfl, (bI_f (fun q => q.elim (fun z => h1 ((lN_lt hm hm2).mpr z)) (fun z => by first | exact h2 ((lN_eq hm hm2).mpr z.1) | omega))).symm, ht⟩) t_nil d_A_standsBefore_40
    · refine lv_aload_n hx hb d_A_standsBefore_24 rfl (lv_at hl 0 rfl) ?_
      refine fv_get (ci := 1) (v := .int (nI nu)) (C := R_A) (T := F_A) (N := 5) hx hb hts (by decide +kernel) hown hK hP 0 0 rfl rfl rfl 0 (by decide) (hts (.fieldLink R_A 13 "PartShelves$Ask" "number" "I") (by decide +kernel)) (fun _ h9 => h9) rfl d_A_standsBefore_25 ?_
      refine lv_aload_n hx hb d_A_standsBefore_28 rfl (lv_at hl 1 rfl) ?_
      refine fv_get (ci := 1) (v := .int (nI nu2)) (C := R_A) (T := F_A) (N := 5) hx hb hts (by decide +kernel) hown hK hP 1 0 rfl rfl rfl 0 (by decide) (hts (.fieldLink R_A 13 "PartShelves$Ask" "number" "I") (by decide +kernel)) (fun _ h9 => h9) rfl d_A_standsBefore_29 ?_
      refine nv_icmp_ge (tgt := 39) hx hb d_A_standsBefore_32 (by decide) (by omega) (by omega) (fun h3 => ?_) (fun h3 => ?_)
      · refine lv_iconst (v := nI 0) hx hb d_A_standsBefore_39 (by decide) ?_
        exact W.zret (v := nI 0) hx hb hr (nar_b (by first | exact Or.inl rfl | exact Or.inr rfl | exact bI_01)) (fun t ht hW => ⟨_, rfl, (bI_f (fun q => q.elim (fun z => h1 ((lN_lt hm hm2).mpr z)) (fun z => by first | exact h2 ((lN_eq hm hm2).mpr z.1) | omega))).symm, ht⟩) t_nil d_A_standsBefore_40
      · refine lv_iconst (v := nI 1) hx hb d_A_standsBefore_35 (by decide) ?_
        refine lv_goto (tgt := 40) hx hb d_A_standsBefore_36 (by decide) ?_
        exact W.zret (v := nI 1) hx hb hr (nar_b (by first | exact Or.inl rfl | exact Or.inr rfl | exact bI_01)) (fun t ht hW => ⟨_, rfl, (bI_t (by first | exact Or.inl ((lN_lt hm hm2).mp h1) | exact Or.inr ⟨(lN_eq hm hm2).mp h2, h3⟩)).symm, ht⟩) t_nil d_A_standsBefore_40

