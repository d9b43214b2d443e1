abbrev b_M_turnWorthsIntoShares : ByteArray := prog_4_method_9_code
def y_M_turnWorthsIntoShares : MethodName := ⟨"PartShelves$Matching", "turnWorthsIntoShares", "()V"⟩
theorem d_M_turnWorthsIntoShares_0 : decode b_M_turnWorthsIntoShares 0 = .ok (.lconst 1, 1) := by decide +kernel
theorem d_M_turnWorthsIntoShares_1 : decode b_M_turnWorthsIntoShares 1 = .ok (.lstore_n 1, 1) := by decide +kernel
theorem d_M_turnWorthsIntoShares_2 : decode b_M_turnWorthsIntoShares 2 = .ok (.aload_n 0, 1) := by decide +kernel
theorem d_M_turnWorthsIntoShares_3 : decode b_M_turnWorthsIntoShares 3 = .ok (.getfield 44, 3) := by decide +kernel
theorem d_M_turnWorthsIntoShares_6 : decode b_M_turnWorthsIntoShares 6 = .ok (.iconst 1, 1) := by decide +kernel
theorem d_M_turnWorthsIntoShares_7 : decode b_M_turnWorthsIntoShares 7 = .ok (.isub, 1) := by decide +kernel
theorem d_M_turnWorthsIntoShares_8 : decode b_M_turnWorthsIntoShares 8 = .ok (.istore_n 3, 1) := by decide +kernel
theorem d_M_turnWorthsIntoShares_9 : decode b_M_turnWorthsIntoShares 9 = .ok (.iload_n 3, 1) := by decide +kernel
theorem d_M_turnWorthsIntoShares_10 : decode b_M_turnWorthsIntoShares 10 = .ok (.ifCond .lt 90, 3) := by decide +kernel
theorem d_M_turnWorthsIntoShares_13 : decode b_M_turnWorthsIntoShares 13 = .ok (.aload_n 0, 1) := by decide +kernel
theorem d_M_turnWorthsIntoShares_14 : decode b_M_turnWorthsIntoShares 14 = .ok (.getfield 29, 3) := by decide +kernel
theorem d_M_turnWorthsIntoShares_17 : decode b_M_turnWorthsIntoShares 17 = .ok (.iload_n 3, 1) := by decide +kernel
theorem d_M_turnWorthsIntoShares_18 : decode b_M_turnWorthsIntoShares 18 = .ok (.iaload, 1) := by decide +kernel
theorem d_M_turnWorthsIntoShares_19 : decode b_M_turnWorthsIntoShares 19 = .ok (.bipush 8, 2) := by decide +kernel
theorem d_M_turnWorthsIntoShares_21 : decode b_M_turnWorthsIntoShares 21 = .ok (.imul, 1) := by decide +kernel
theorem d_M_turnWorthsIntoShares_22 : decode b_M_turnWorthsIntoShares 22 = .ok (.istore 4, 2) := by decide +kernel
theorem d_M_turnWorthsIntoShares_24 : decode b_M_turnWorthsIntoShares 24 = .ok (.iconst 0, 1) := by decide +kernel
theorem d_M_turnWorthsIntoShares_25 : decode b_M_turnWorthsIntoShares 25 = .ok (.istore 5, 2) := by decide +kernel
theorem d_M_turnWorthsIntoShares_27 : decode b_M_turnWorthsIntoShares 27 = .ok (.iload 5, 2) := by decide +kernel
theorem d_M_turnWorthsIntoShares_29 : decode b_M_turnWorthsIntoShares 29 = .ok (.aload_n 0, 1) := by decide +kernel
theorem d_M_turnWorthsIntoShares_30 : decode b_M_turnWorthsIntoShares 30 = .ok (.getfield 41, 3) := by decide +kernel
theorem d_M_turnWorthsIntoShares_33 : decode b_M_turnWorthsIntoShares 33 = .ok (.if_icmp .ge 55, 3) := by decide +kernel
theorem d_M_turnWorthsIntoShares_36 : decode b_M_turnWorthsIntoShares 36 = .ok (.aload_n 0, 1) := by decide +kernel
theorem d_M_turnWorthsIntoShares_37 : decode b_M_turnWorthsIntoShares 37 = .ok (.getfield 9, 3) := by decide +kernel
theorem d_M_turnWorthsIntoShares_40 : decode b_M_turnWorthsIntoShares 40 = .ok (.iload 4, 2) := by decide +kernel
theorem d_M_turnWorthsIntoShares_42 : decode b_M_turnWorthsIntoShares 42 = .ok (.iload 5, 2) := by decide +kernel
theorem d_M_turnWorthsIntoShares_44 : decode b_M_turnWorthsIntoShares 44 = .ok (.iadd, 1) := by decide +kernel
theorem d_M_turnWorthsIntoShares_45 : decode b_M_turnWorthsIntoShares 45 = .ok (.laload, 1) := by decide +kernel
theorem d_M_turnWorthsIntoShares_46 : decode b_M_turnWorthsIntoShares 46 = .ok (.lstore 6, 2) := by decide +kernel
theorem d_M_turnWorthsIntoShares_48 : decode b_M_turnWorthsIntoShares 48 = .ok (.lload 6, 2) := by decide +kernel
theorem d_M_turnWorthsIntoShares_50 : decode b_M_turnWorthsIntoShares 50 = .ok (.ldc2_w 50, 3) := by decide +kernel
theorem d_M_turnWorthsIntoShares_53 : decode b_M_turnWorthsIntoShares 53 = .ok (.lcmp, 1) := by decide +kernel
theorem d_M_turnWorthsIntoShares_54 : decode b_M_turnWorthsIntoShares 54 = .ok (.ifCond .eq 28, 3) := by decide +kernel
theorem d_M_turnWorthsIntoShares_57 : decode b_M_turnWorthsIntoShares 57 = .ok (.aload_n 0, 1) := by decide +kernel
theorem d_M_turnWorthsIntoShares_58 : decode b_M_turnWorthsIntoShares 58 = .ok (.getfield 9, 3) := by decide +kernel
theorem d_M_turnWorthsIntoShares_61 : decode b_M_turnWorthsIntoShares 61 = .ok (.iload 4, 2) := by decide +kernel
theorem d_M_turnWorthsIntoShares_63 : decode b_M_turnWorthsIntoShares 63 = .ok (.iload 5, 2) := by decide +kernel
theorem d_M_turnWorthsIntoShares_65 : decode b_M_turnWorthsIntoShares 65 = .ok (.iadd, 1) := by decide +kernel
theorem d_M_turnWorthsIntoShares_66 : decode b_M_turnWorthsIntoShares 66 = .ok (.lload 6, 2) := by decide +kernel
theorem d_M_turnWorthsIntoShares_68 : decode b_M_turnWorthsIntoShares 68 = .ok (.ldc2_w 63, 3) := by decide +kernel
theorem d_M_turnWorthsIntoShares_71 : decode b_M_turnWorthsIntoShares 71 = .ok (.lmul, 1) := by decide +kernel
theorem d_M_turnWorthsIntoShares_72 : decode b_M_turnWorthsIntoShares 72 = .ok (.bipush 8, 2) := by decide +kernel
theorem d_M_turnWorthsIntoShares_74 : decode b_M_turnWorthsIntoShares 74 = .ok (.iload 5, 2) := by decide +kernel
theorem d_M_turnWorthsIntoShares_76 : decode b_M_turnWorthsIntoShares 76 = .ok (.isub, 1) := by decide +kernel
theorem d_M_turnWorthsIntoShares_77 : decode b_M_turnWorthsIntoShares 77 = .ok (.i2l, 1) := by decide +kernel
theorem d_M_turnWorthsIntoShares_78 : decode b_M_turnWorthsIntoShares 78 = .ok (.lload_n 1, 1) := by decide +kernel
theorem d_M_turnWorthsIntoShares_79 : decode b_M_turnWorthsIntoShares 79 = .ok (.lmul, 1) := by decide +kernel
theorem d_M_turnWorthsIntoShares_80 : decode b_M_turnWorthsIntoShares 80 = .ok (.ladd, 1) := by decide +kernel
theorem d_M_turnWorthsIntoShares_81 : decode b_M_turnWorthsIntoShares 81 = .ok (.lastore, 1) := by decide +kernel
theorem d_M_turnWorthsIntoShares_82 : decode b_M_turnWorthsIntoShares 82 = .ok (.iinc 5 1, 3) := by decide +kernel
theorem d_M_turnWorthsIntoShares_85 : decode b_M_turnWorthsIntoShares 85 = .ok (.goto (-58), 3) := by decide +kernel
theorem d_M_turnWorthsIntoShares_88 : decode b_M_turnWorthsIntoShares 88 = .ok (.lload_n 1, 1) := by decide +kernel
theorem d_M_turnWorthsIntoShares_89 : decode b_M_turnWorthsIntoShares 89 = .ok (.ldc2_w 73, 3) := by decide +kernel
theorem d_M_turnWorthsIntoShares_92 : decode b_M_turnWorthsIntoShares 92 = .ok (.lmul, 1) := by decide +kernel
theorem d_M_turnWorthsIntoShares_93 : decode b_M_turnWorthsIntoShares 93 = .ok (.lstore_n 1, 1) := by decide +kernel
theorem d_M_turnWorthsIntoShares_94 : decode b_M_turnWorthsIntoShares 94 = .ok (.iinc 3 (-1), 3) := by decide +kernel
theorem d_M_turnWorthsIntoShares_97 : decode b_M_turnWorthsIntoShares 97 = .ok (.goto (-88), 3) := by decide +kernel
theorem d_M_turnWorthsIntoShares_100 : decode b_M_turnWorthsIntoShares 100 = .ok (.return_, 1) := by decide +kernel
def w_M_turnWorthsIntoShares : List Cond := .code y_M_turnWorthsIntoShares b_M_turnWorthsIntoShares 8 none :: ([.fieldLink "PartShelves$Matching" 44 "PartShelves$Matching" "askCount" "I", .fieldLink "PartShelves$Matching" 29 "PartShelves$Matching" "askByRank" "[I", .fieldLink "PartShelves$Matching" 41 "PartShelves$Matching" "partCount" "I", .fieldLink "PartShelves$Matching" 9 "PartShelves$Matching" "shares" "[J", .constantLong "PartShelves$Matching" 50 (-1), .constantLong "PartShelves$Matching" 63 43046721, .constantLong "PartShelves$Matching" 73 9] ++ u_ws R_M F_M 13)
set_option maxHeartbeats 4000000 in
set_option maxRecDepth 100000 in
theorem c_M_turn (l : Launch) (D : va_G) (kC : Nat → ClassId) (ad : Nat → Nat) (sh : Nat → Int64) (be : Nat → Int64) (ob : Nat → Int32) (os : Nat → Int64) (oc : Nat) (ar : Nat → Int32) (gi : Nat → Int32) (pg : Nat → Int64) (ag : Nat → Int64) (pn : Nat) (an : Nat) (prn : Nat) (tot : Int64) (arN : Nat → Nat) (sz : Nat) (h8p : pn ≤ 8) (h8a : an ≤ 8) (har : ∀ r, r < an → ar r = nI (arN r) ∧ arN r < 8) : Met l y_M_turnWorthsIntoShares w_M_turnWorthsIntoShares ({ frames := 0, cells := 0, slots := 0, locals := 0 } : Room) (gPre cls D (tyL kC) [.ref (ad 0)] (fl [(wM kC ad sh be ob os oc ar gi pg ag pn an prn tot)]) sz) (gQv cls D (tyL kC) (fl [(wM kC ad sh be ob os oc ar gi pg ag pn an prn tot)]) sz (fl [(wM kC ad (turnF arN pn an sh (lN 1)) be ob os oc ar gi pg ag pn an prn tot)])) 0 0 (va_A (fl [(wM kC ad sh be ob os oc ar gi pg ag pn an prn tot)]) sz) := by
  refine Met.ofW (cc := b_M_turnWorthsIntoShares) (maxL := 8) (ret := none) (by decide) rfl ?_
  intro p e s m args below meth c s₁ B hml hv
  obtain ⟨rfl, hsz, hP, hK, hD0⟩ := hv
  have hx := B.exec
  have hb := B.bytes
  have hr := B.returns
  have hts := atoms_spec (ws := w_M_turnWorthsIntoShares) B.pre
  have hown : s.vm.findClass R_M = some m.cls := findClass_of_methodNamed B.named
  have hlocks := B.notSynchronized
  subst hsz
  obtain ⟨A, hAe⟩ : ∃ A : Nat → Prop, A = va_A (fl [(wM kC ad sh be ob os oc ar gi pg ag pn an prn tot)]) s.heap.size := ⟨_, rfl⟩
  have hD : va_D A (fl [(wM kC ad sh be ob os oc ar gi pg ag pn an prn tot)]) := by rw [hAe]; exact hD0.self
  have hA : ∀ q : Nat, s.heap.size ≤ q → A q := fun q h => by rw [hAe]; exact Or.inr h
  have hS : va_S A s.heap s.heap [] := va_S.rf
  have hl := lv_entry ([.ref (ad 0)]) (n := 8) (Nat.le_of_ble_eq_true rfl)
  rw [lg_entry_eq]
  generalize (lg_sl ([.ref (ad 0)]) ++ List.replicate (8 - (lg_sl ([.ref (ad 0)])).length) Slot.unset).toArray = ls at hl ⊢
  have hl : lv_has ls 8 [(0, .ref (ad 0))] := hl
  refine lv_lconst (v := lN 1) hx hb d_M_turnWorthsIntoShares_0 (by decide) ?_
  refine lv_lstore_n (lv' := [(1, .long (lN 1)), (0, .ref (ad 0))]) hx hb d_M_turnWorthsIntoShares_1 rfl hl (by decide) rfl (fun ls hl => ?_)
  refine lv_aload_n hx hb d_M_turnWorthsIntoShares_2 rfl (lv_at hl 1 rfl) ?_
  refine fv_get (ci := 3) (v := .int (nI an)) (C := R_M) (T := F_M) (N := 13) hx hb hts (by decide +kernel) hown hK hP 0 0 rfl rfl rfl 10 (by decide) (hts (.fieldLink R_M 44 "PartShelves$Matching" "askCount" "I") (by decide +kernel)) (fun _ h9 => h9) rfl d_M_turnWorthsIntoShares_3 ?_
  refine lv_iconst (v := nI 1) hx hb d_M_turnWorthsIntoShares_6 (by decide) ?_
  refine lv_isub hx hb d_M_turnWorthsIntoShares_7 ?_
  refine lv_istore_n (lv' := [(3, .int ((nI an) - (nI 1))), (1, .long (lN 1)), (0, .ref (ad 0))]) hx hb d_M_turnWorthsIntoShares_8 rfl hl (by decide) rfl (fun ls hl => ?_)
  have L9 : ∀ (n9 : Nat) (k : Nat) (shc : Nat → Int64) (pl : Int64), k < n9 → k ≤ an → turnF arN pn k shc pl = turnF arN pn an sh (lN 1) → ∀ (H : Heap) (locs : List Loc), va_P D cls (fl [(wM kC ad shc be ob os oc ar gi pg ag pn an prn tot)]) H → va_D A (fl [(wM kC ad shc be ob os oc ar gi pg ag pn an prn tot)]) → va_S A s.heap H locs → ∀ (ls : Array Slot), lv_has ls 8 [(0, .ref (ad 0)), (1, .long pl), (3, .int (nI k - nI 1))] → W p l e (headSpec w_M_turnWorthsIntoShares ({ frames := 0, cells := 0, slots := 0, locals := 0 } : Room)).room s m ([.ref (ad 0)] : List Value).toArray below meth c H locs 0 0 (MQ below (gQv cls D (tyL kC) (fl [(wM kC ad sh be ob os oc ar gi pg ag pn an prn tot)]) s.heap.size (fl [(wM kC ad (turnF arN pn an sh (lN 1)) be ob os oc ar gi pg ag pn an prn tot)])) ([.ref (ad 0)] : List Value).toArray s 0 0 (va_A (fl [(wM kC ad sh be ob os oc ar gi pg ag pn an prn tot)]) s.heap.size)) (F0 m 9 ls []) := by
    intro n9
    induction n9 with
    | zero =>
      intro k shc pl hm
      exact absurd hm (Nat.not_lt_zero _)
    | succ n9 ih9 =>
      intro k shc pl hm hka hT H locs hP hD hS ls hl
      refine lv_iload_n hx hb d_M_turnWorthsIntoShares_9 rfl (lv_at hl 2 rfl) ?_
      refine lv_if_lt (tgt := 100) hx hb d_M_turnWorthsIntoShares_10 (by decide) (fun hk => ?_) (fun hk => ?_)
      · obtain rfl : k = 0 := (rk_neg (by omega)).mp hk
        have ew1 : shc = (turnF arN pn an sh (lN 1)) := hT
        have hP : va_P D cls (fl [(wM kC ad (turnF arN pn an sh (lN 1)) be ob os oc ar gi pg ag pn an prn tot)]) H := by rw [← ew1]; exact hP
        have hD : va_D A (fl [(wM kC ad (turnF arN pn an sh (lN 1)) be ob os oc ar gi pg ag pn an prn tot)]) := by rw [← ew1]; exact hD
        exact W.vret hx hb hr (fun t ht hW => by subst hAe; exact ⟨⟨(), rfl, trivial, by rw [ht]; exact hP, va_K.moved hW.alike hK, hD⟩, hS.F ht⟩) (by subst hAe; exact hS.2.2) d_M_turnWorthsIntoShares_100
      · obtain ⟨j, rfl⟩ := rk_pos (by omega) hk
        have el2 : nI (j + 1) - nI 1 = nI j := nI_pred j
        have hl : lv_has ls 8 [(0, .ref (ad 0)), (1, .long pl), (3, .int (nI j))] := by rw [← el2]; exact hl
        obtain ⟨ha1, ha2⟩ := har j (by omega)
        refine lv_aload_n hx hb d_M_turnWorthsIntoShares_13 rfl (lv_at hl 0 rfl) ?_
        refine fv_get (ci := 3) (v := .ref (ad 5)) (C := R_M) (T := F_M) (N := 13) hx hb hts (by decide +kernel) hown hK hP 0 0 rfl rfl rfl 5 (by decide) (hts (.fieldLink R_M 29 "PartShelves$Matching" "askByRank" "[I") (by decide +kernel)) (fun _ h9 => h9) rfl d_M_turnWorthsIntoShares_14 ?_
        refine lv_iload_n hx hb d_M_turnWorthsIntoShares_17 rfl (lv_at hl 2 rfl) ?_
        refine fa_iald hx hb hK hP 0 5 0 rfl rfl rfl (by omega) (by decide) d_M_turnWorthsIntoShares_18 ?_
        refine nv_topi (y := nI (arN j)) (ha1) ?_
        refine lv_bipush (v := nI 8) hx hb d_M_turnWorthsIntoShares_19 (by decide +kernel) ?_
        refine nv_imul hx hb d_M_turnWorthsIntoShares_21 ?_
        refine lv_istore (lv' := [(4, .int (nI ((arN j) * 8))), (0, .ref (ad 0)), (1, .long pl), (3, .int (nI j))]) hx hb d_M_turnWorthsIntoShares_22 hl (by decide) rfl (fun ls hl => ?_)
        refine lv_iconst (v := nI 0) hx hb d_M_turnWorthsIntoShares_24 (by decide) ?_
        refine lv_istore (lv' := [(5, .int (nI 0)), (4, .int (nI ((arN j) * 8))), (0, .ref (ad 0)), (1, .long pl), (3, .int (nI j))]) hx hb d_M_turnWorthsIntoShares_25 hl (by decide) rfl (fun ls hl => ?_)
        have L27 : ∀ (n27 : Nat) (i : Nat), pn - i < n27 → i ≤ pn → ∀ (H : Heap) (locs : List Loc), va_P D cls (fl [(wM kC ad (turnRow (arN j) pl shc i) be ob os oc ar gi pg ag pn an prn tot)]) H → va_D A (fl [(wM kC ad (turnRow (arN j) pl shc i) be ob os oc ar gi pg ag pn an prn tot)]) → va_S A s.heap H locs → ∀ (ls : Array Slot), lv_has ls 8 [(0, .ref (ad 0)), (1, .long pl), (3, .int (nI j)), (4, .int (nI (arN j * 8))), (5, .int (nI i))] → W p l e (headSpec w_M_turnWorthsIntoShares ({ frames := 0, cells := 0, slots := 0, locals := 0 } : Room)).room s m ([.ref (ad 0)] : List Value).toArray below meth c H locs 0 0 (MQ below (gQv cls D (tyL kC) (fl [(wM kC ad sh be ob os oc ar gi pg ag pn an prn tot)]) s.heap.size (fl [(wM kC ad (turnF arN pn an sh (lN 1)) be ob os oc ar gi pg ag pn an prn tot)])) ([.ref (ad 0)] : List Value).toArray s 0 0 (va_A (fl [(wM kC ad sh be ob os oc ar gi pg ag pn an prn tot)]) s.heap.size)) (F0 m 27 ls []) := by
          intro n27
          induction n27 with
          | zero =>
            intro i hm
            exact absurd hm (Nat.not_lt_zero _)
          | succ n27 ih27 =>
            intro i hm hip H locs hP hD hS ls hl
            refine lv_iload hx hb d_M_turnWorthsIntoShares_27 (lv_at hl 4 rfl) ?_
            refine lv_aload_n hx hb d_M_turnWorthsIntoShares_29 rfl (lv_at hl 0 rfl) ?_
            refine fv_get (ci := 3) (v := .int (nI pn)) (C := R_M) (T := F_M) (N := 13) hx hb hts (by decide +kernel) hown hK hP 0 0 rfl rfl rfl 9 (by decide) (hts (.fieldLink R_M 41 "PartShelves$Matching" "partCount" "I") (by decide +kernel)) (fun _ h9 => h9) rfl d_M_turnWorthsIntoShares_30 ?_
            refine nv_icmp_ge (tgt := 88) hx hb d_M_turnWorthsIntoShares_33 (by decide) (by omega) (by omega) (fun hi => ?_) (fun hi => ?_)
            · obtain rfl : pn = i := by omega
              refine lv_lload_n hx hb d_M_turnWorthsIntoShares_88 rfl (lv_at hl 1 rfl) ?_
              refine lv_ldc2 (v := 9) hx hb hown (hts (.constantLong R_M 73 9) (by decide +kernel)) d_M_turnWorthsIntoShares_89 ?_
              refine nv_topl (y := lN 9) (by decide +kernel) ?_
              refine lv_lmul hx hb d_M_turnWorthsIntoShares_92 ?_
              refine lv_lstore_n (lv' := [(1, .long (pl * (lN 9))), (0, .ref (ad 0)), (3, .int (nI j)), (4, .int (nI (arN j * 8))), (5, .int (nI pn))]) hx hb d_M_turnWorthsIntoShares_93 rfl hl (by decide) rfl (fun ls hl => ?_)
              refine lv_iinc (v := (nI j) - nI 1) (lv' := [(3, .int ((nI j) - nI 1)), (1, .long (pl * (lN 9))), (0, .ref (ad 0)), (4, .int (nI (arN j * 8))), (5, .int (nI pn))]) hx hb d_M_turnWorthsIntoShares_94 hl (k := 2) rfl (by rw [Int32.sub_eq_add_neg]; rfl) (by decide) rfl (fun ls hl => ?_)
              refine lv_goto (tgt := 9) hx hb d_M_turnWorthsIntoShares_97 (by decide) ?_
              exact ih9 j (turnRow (arN j) pl shc pn) (pl * (lN 9)) (by omega) (by omega) (hT) _ _ hP hD hS ls (lv_sub hl [2, 1, 0] rfl)
            · refine lv_aload_n hx hb d_M_turnWorthsIntoShares_36 rfl (lv_at hl 0 rfl) ?_
              refine fv_get (ci := 3) (v := .ref (ad 1)) (C := R_M) (T := F_M) (N := 13) hx hb hts (by decide +kernel) hown hK hP 0 0 rfl rfl rfl 0 (by decide) (hts (.fieldLink R_M 9 "PartShelves$Matching" "shares" "[J") (by decide +kernel)) (fun _ h9 => h9) rfl d_M_turnWorthsIntoShares_37 ?_
              refine lv_iload hx hb d_M_turnWorthsIntoShares_40 (lv_at hl 3 rfl) ?_
              refine lv_iload hx hb d_M_turnWorthsIntoShares_42 (lv_at hl 4 rfl) ?_
              refine nv_iadd hx hb d_M_turnWorthsIntoShares_44 ?_
              refine fa_lald hx hb hK hP 0 1 1 rfl rfl rfl (by omega) (by decide) d_M_turnWorthsIntoShares_45 ?_
              refine nv_topl (y := shc (arN j * 8 + i)) (turnRow_at _ _ _ _) ?_
              refine lv_lstore (lv' := [(6, .long (shc (arN j * 8 + i))), (0, .ref (ad 0)), (1, .long pl), (3, .int (nI j)), (4, .int (nI (arN j * 8))), (5, .int (nI i))]) hx hb d_M_turnWorthsIntoShares_46 hl (by decide) rfl (fun ls hl => ?_)
              refine lv_lload hx hb d_M_turnWorthsIntoShares_48 (lv_at hl 0 rfl) ?_
              refine lv_ldc2 (v := (-1)) hx hb hown (hts (.constantLong R_M 50 (-1)) (by decide +kernel)) d_M_turnWorthsIntoShares_50 ?_
              refine lc_eq (tgt := 82) hx hb d_M_turnWorthsIntoShares_53 d_M_turnWorthsIntoShares_54 (by decide) (fun hv => ?_) (fun hv => ?_)
              · refine lv_iinc (v := nI (i + 1)) (lv' := [(5, .int (nI (i + 1))), (6, .long (shc (arN j * 8 + i))), (0, .ref (ad 0)), (1, .long pl), (3, .int (nI j)), (4, .int (nI (arN j * 8)))]) hx hb d_M_turnWorthsIntoShares_82 hl (k := 5) rfl (nI_1 i) (by decide) rfl (fun ls hl => ?_)
                refine lv_goto (tgt := 27) hx hb d_M_turnWorthsIntoShares_85 (by decide) ?_
                have ew3 : (turnRow (arN j) pl shc i) = (turnRow (arN j) pl shc (i + 1)) := turnRow_t hv
                have hP : va_P D cls (fl [(wM kC ad (turnRow (arN j) pl shc (i + 1)) be ob os oc ar gi pg ag pn an prn tot)]) H := by rw [← ew3]; exact hP
                have hD : va_D A (fl [(wM kC ad (turnRow (arN j) pl shc (i + 1)) be ob os oc ar gi pg ag pn an prn tot)]) := by rw [← ew3]; exact hD
                exact ih27 (i + 1) (by omega) (hi) _ _ hP hD hS ls (lv_sub hl [2, 3, 4, 5, 0] rfl)
              · refine lv_aload_n hx hb d_M_turnWorthsIntoShares_57 rfl (lv_at hl 1 rfl) ?_
                refine fv_get (ci := 3) (v := .ref (ad 1)) (C := R_M) (T := F_M) (N := 13) hx hb hts (by decide +kernel) hown hK hP 0 0 rfl rfl rfl 0 (by decide) (hts (.fieldLink R_M 9 "PartShelves$Matching" "shares" "[J") (by decide +kernel)) (fun _ h9 => h9) rfl d_M_turnWorthsIntoShares_58 ?_
                refine lv_iload hx hb d_M_turnWorthsIntoShares_61 (lv_at hl 4 rfl) ?_
                refine lv_iload hx hb d_M_turnWorthsIntoShares_63 (lv_at hl 5 rfl) ?_
                refine nv_iadd hx hb d_M_turnWorthsIntoShares_65 ?_
                refine lv_lload hx hb d_M_turnWorthsIntoShares_66 (lv_at hl 0 rfl) ?_
                refine lv_ldc2 (v := 43046721) hx hb hown (hts (.constantLong R_M 63 43046721) (by decide +kernel)) d_M_turnWorthsIntoShares_68 ?_
                refine nv_topl (y := lN 43046721) (by decide +kernel) ?_
                refine lv_lmul hx hb d_M_turnWorthsIntoShares_71 ?_
                refine lv_bipush (v := nI 8) hx hb d_M_turnWorthsIntoShares_72 (by decide +kernel) ?_
                refine lv_iload hx hb d_M_turnWorthsIntoShares_74 (lv_at hl 5 rfl) ?_
                refine nv_isub hx hb d_M_turnWorthsIntoShares_76 (by omega) ?_
                refine nv_i2l hx hb d_M_turnWorthsIntoShares_77 (by omega) ?_
                refine lv_lload_n hx hb d_M_turnWorthsIntoShares_78 rfl (lv_at hl 2 rfl) ?_
                refine lv_lmul hx hb d_M_turnWorthsIntoShares_79 ?_
                refine lv_ladd hx hb d_M_turnWorthsIntoShares_80 ?_
                refine fa_last hx hb hK hP hD hS 0 1 1 rfl rfl rfl (by omega) (by decide) d_M_turnWorthsIntoShares_81 (fun H locs hP hD hS => ?_)
                have hP : va_P D cls (fl [(wM kC ad (vp_updL (turnRow (arN j) pl shc i) (arN j * 8 + i) (((shc (arN j * 8 + i)) * (lN 43046721)) + ((lN (8 - i)) * pl))) be ob os oc ar gi pg ag pn an prn tot)]) H := hP
                have hD : va_D A (fl [(wM kC ad (vp_updL (turnRow (arN j) pl shc i) (arN j * 8 + i) (((shc (arN j * 8 + i)) * (lN 43046721)) + ((lN (8 - i)) * pl))) be ob os oc ar gi pg ag pn an prn tot)]) := hD
                refine lv_iinc (v := nI (i + 1)) (lv' := [(5, .int (nI (i + 1))), (6, .long (shc (arN j * 8 + i))), (0, .ref (ad 0)), (1, .long pl), (3, .int (nI j)), (4, .int (nI (arN j * 8)))]) hx hb d_M_turnWorthsIntoShares_82 hl (k := 5) rfl (nI_1 i) (by decide) rfl (fun ls hl => ?_)
                refine lv_goto (tgt := 27) hx hb d_M_turnWorthsIntoShares_85 (by decide) ?_
                have ew4 : (vp_updL (turnRow (arN j) pl shc i) (arN j * 8 + i) (((shc (arN j * 8 + i)) * (lN 43046721)) + ((lN (8 - i)) * pl))) = (turnRow (arN j) pl shc (i + 1)) := turnRow_f hv
                have hP : va_P D cls (fl [(wM kC ad (turnRow (arN j) pl shc (i + 1)) be ob os oc ar gi pg ag pn an prn tot)]) H := by rw [← ew4]; exact hP
                have hD : va_D A (fl [(wM kC ad (turnRow (arN j) pl shc (i + 1)) be ob os oc ar gi pg ag pn an prn tot)]) := by rw [← ew4]; exact hD
                exact ih27 (i + 1) (by omega) (hi) _ _ hP hD hS ls (lv_sub hl [2, 3, 4, 5, 0] rfl)
        have ew5 : shc = (turnRow (arN j) pl shc 0) := (turnRow_0 _ _ _).symm
        have hP : va_P D cls (fl [(wM kC ad (turnRow (arN j) pl shc 0) be ob os oc ar gi pg ag pn an prn tot)]) H := by rw [← ew5]; exact hP
        have hD : va_D A (fl [(wM kC ad (turnRow (arN j) pl shc 0) be ob os oc ar gi pg ag pn an prn tot)]) := by rw [← ew5]; exact hD
        exact L27 _ 0 (Nat.lt_succ_self _) (Nat.zero_le _) _ _ hP hD hS ls (lv_sub hl [2, 3, 4, 1, 0] rfl)
  exact L9 _ an sh (lN 1) (Nat.lt_succ_self _) (Nat.le_refl _) (rfl) _ _ hP hD hS ls (lv_sub hl [2, 1, 0] rfl)

abbrev b_M_readGiven : ByteArray := prog_4_method_13_code
def y_M_readGiven : MethodName := ⟨"PartShelves$Matching", "readGiven", "(J)V"⟩
theorem d_M_readGiven_0 : decode b_M_readGiven 0 = .ok (.lload_n 1, 1) := by decide +kernel
theorem d_M_readGiven_1 : decode b_M_readGiven 1 = .ok (.lstore_n 3, 1) := by decide +kernel
theorem d_M_readGiven_2 : decode b_M_readGiven 2 = .ok (.aload_n 0, 1) := by decide +kernel
theorem d_M_readGiven_3 : decode b_M_readGiven 3 = .ok (.iconst 0, 1) := by decide +kernel
theorem d_M_readGiven_4 : decode b_M_readGiven 4 = .ok (.putfield 47, 3) := by decide +kernel
theorem d_M_readGiven_7 : decode b_M_readGiven 7 = .ok (.aload_n 0, 1) := by decide +kernel
theorem d_M_readGiven_8 : decode b_M_readGiven 8 = .ok (.getfield 44, 3) := by decide +kernel
theorem d_M_readGiven_11 : decode b_M_readGiven 11 = .ok (.iconst 1, 1) := by decide +kernel
theorem d_M_readGiven_12 : decode b_M_readGiven 12 = .ok (.isub, 1) := by decide +kernel
theorem d_M_readGiven_13 : decode b_M_readGiven 13 = .ok (.istore 5, 2) := by decide +kernel
theorem d_M_readGiven_15 : decode b_M_readGiven 15 = .ok (.iload 5, 2) := by decide +kernel
theorem d_M_readGiven_17 : decode b_M_readGiven 17 = .ok (.ifCond .lt 68, 3) := by decide +kernel
theorem d_M_readGiven_20 : decode b_M_readGiven 20 = .ok (.lload_n 3, 1) := by decide +kernel
theorem d_M_readGiven_21 : decode b_M_readGiven 21 = .ok (.ldc2_w 73, 3) := by decide +kernel
theorem d_M_readGiven_24 : decode b_M_readGiven 24 = .ok (.lrem, 1) := by decide +kernel
theorem d_M_readGiven_25 : decode b_M_readGiven 25 = .ok (.l2i, 1) := by decide +kernel
theorem d_M_readGiven_26 : decode b_M_readGiven 26 = .ok (.istore 6, 2) := by decide +kernel
theorem d_M_readGiven_28 : decode b_M_readGiven 28 = .ok (.lload_n 3, 1) := by decide +kernel
theorem d_M_readGiven_29 : decode b_M_readGiven 29 = .ok (.ldc2_w 73, 3) := by decide +kernel
theorem d_M_readGiven_32 : decode b_M_readGiven 32 = .ok (.ldiv, 1) := by decide +kernel
theorem d_M_readGiven_33 : decode b_M_readGiven 33 = .ok (.lstore_n 3, 1) := by decide +kernel
theorem d_M_readGiven_34 : decode b_M_readGiven 34 = .ok (.aload_n 0, 1) := by decide +kernel
theorem d_M_readGiven_35 : decode b_M_readGiven 35 = .ok (.getfield 32, 3) := by decide +kernel
theorem d_M_readGiven_38 : decode b_M_readGiven 38 = .ok (.aload_n 0, 1) := by decide +kernel
theorem d_M_readGiven_39 : decode b_M_readGiven 39 = .ok (.getfield 29, 3) := by decide +kernel
theorem d_M_readGiven_42 : decode b_M_readGiven 42 = .ok (.iload 5, 2) := by decide +kernel
theorem d_M_readGiven_44 : decode b_M_readGiven 44 = .ok (.iaload, 1) := by decide +kernel
theorem d_M_readGiven_45 : decode b_M_readGiven 45 = .ok (.iload 6, 2) := by decide +kernel
theorem d_M_readGiven_47 : decode b_M_readGiven 47 = .ok (.ifCond .ne 7, 3) := by decide +kernel
theorem d_M_readGiven_50 : decode b_M_readGiven 50 = .ok (.iconst (-1), 1) := by decide +kernel
theorem d_M_readGiven_51 : decode b_M_readGiven 51 = .ok (.goto 8, 3) := by decide +kernel
theorem d_M_readGiven_54 : decode b_M_readGiven 54 = .ok (.bipush 8, 2) := by decide +kernel
theorem d_M_readGiven_56 : decode b_M_readGiven 56 = .ok (.iload 6, 2) := by decide +kernel
theorem d_M_readGiven_58 : decode b_M_readGiven 58 = .ok (.isub, 1) := by decide +kernel
theorem d_M_readGiven_59 : decode b_M_readGiven 59 = .ok (.iastore, 1) := by decide +kernel
theorem d_M_readGiven_60 : decode b_M_readGiven 60 = .ok (.aload_n 0, 1) := by decide +kernel
theorem d_M_readGiven_61 : decode b_M_readGiven 61 = .ok (.dup, 1) := by decide +kernel
theorem d_M_readGiven_62 : decode b_M_readGiven 62 = .ok (.getfield 47, 3) := by decide +kernel
theorem d_M_readGiven_65 : decode b_M_readGiven 65 = .ok (.iload 6, 2) := by decide +kernel
theorem d_M_readGiven_67 : decode b_M_readGiven 67 = .ok (.ifCond .ne 7, 3) := by decide +kernel
theorem d_M_readGiven_70 : decode b_M_readGiven 70 = .ok (.iconst 0, 1) := by decide +kernel
theorem d_M_readGiven_71 : decode b_M_readGiven 71 = .ok (.goto 4, 3) := by decide +kernel
theorem d_M_readGiven_74 : decode b_M_readGiven 74 = .ok (.iconst 1, 1) := by decide +kernel
theorem d_M_readGiven_75 : decode b_M_readGiven 75 = .ok (.iadd, 1) := by decide +kernel
theorem d_M_readGiven_76 : decode b_M_readGiven 76 = .ok (.putfield 47, 3) := by decide +kernel
theorem d_M_readGiven_79 : decode b_M_readGiven 79 = .ok (.iinc 5 (-1), 3) := by decide +kernel
theorem d_M_readGiven_82 : decode b_M_readGiven 82 = .ok (.goto (-67), 3) := by decide +kernel
theorem d_M_readGiven_85 : decode b_M_readGiven 85 = .ok (.return_, 1) := by decide +kernel
def w_M_readGiven : List Cond := .code y_M_readGiven b_M_readGiven 7 none :: ([.fieldLink "PartShelves$Matching" 47 "PartShelves$Matching" "pairCount" "I", .fieldLink "PartShelves$Matching" 44 "PartShelves$Matching" "askCount" "I", .constantLong "PartShelves$Matching" 73 9, .fieldLink "PartShelves$Matching" 32 "PartShelves$Matching" "given" "[I", .fieldLink "PartShelves$Matching" 29 "PartShelves$Matching" "askByRank" "[I"] ++ u_ws R_M F_M 13)
set_option maxHeartbeats 4000000 in
set_option maxRecDepth 100000 in
theorem c_M_given (l : Launch) (D : va_G) (kC : Nat → ClassId) (ad : Nat → Nat) (sh : Nat → Int64) (be : Nat → Int64) (ob : Nat → Int32) (os : Nat → Int64) (oc : Nat) (ar : Nat → Int32) (gi : Nat → Int32) (pg : Nat → Int64) (ag : Nat → Int64) (pn : Nat) (an : Nat) (prn : Nat) (tot : Int64) (arN : Nat → Nat) (d : Nat) (sz : Nat) (h8a : an ≤ 8) (har : ∀ r, r < an → ar r = nI (arN r) ∧ arN r < 8) (hd : d < 2 ^ 63) : Met l y_M_readGiven w_M_readGiven ({ frames := 0, cells := 0, slots := 0, locals := 0 } : Room) (gPre cls D (tyL kC) [.ref (ad 0), .long (lN d)] (fl [(wM kC ad sh be ob os oc ar gi pg ag pn an prn tot)]) sz) (gQv cls D (tyL kC) (fl [(wM kC ad sh be ob os oc ar gi pg ag pn an prn tot)]) sz (fl [(wM kC ad sh be ob os oc ar (gvF arN an d gi) pg ag pn an (gvN an d 0) tot)])) 0 0 (va_A (fl [(wM kC ad sh be ob os oc ar gi pg ag pn an prn tot)]) sz) := by
  refine Met.ofW (cc := b_M_readGiven) (maxL := 7) (ret := none) (by decide) rfl ?_
  intro p e s m args below meth c s₁ B hml hv
  obtain ⟨rfl, hsz, hP, hK, hD0⟩ := hv
  have hx := B.exec
  have hb := B.bytes
  have hr := B.returns
  have hts := atoms_spec (ws := w_M_readGiven) B.pre
  have hown : s.vm.findClass R_M = some m.cls := findClass_of_methodNamed B.named
  have hlocks := B.notSynchronized
  subst hsz
  obtain ⟨A, hAe⟩ : ∃ A : Nat → Prop, A = va_A (fl [(wM kC ad sh be ob os oc ar gi pg ag pn an prn tot)]) s.heap.size := ⟨_, rfl⟩
  have hD : va_D A (fl [(wM kC ad sh be ob os oc ar gi pg ag pn an prn tot)]) := by rw [hAe]; exact hD0.self
  have hA : ∀ q : Nat, s.heap.size ≤ q → A q := fun q h => by rw [hAe]; exact Or.inr h
  have hS : va_S A s.heap s.heap [] := va_S.rf
  have hl := lv_entry ([.ref (ad 0), .long (lN d)]) (n := 7) (Nat.le_of_ble_eq_true rfl)
  rw [lg_entry_eq]
  generalize (lg_sl ([.ref (ad 0), .long (lN d)]) ++ List.replicate (7 - (lg_sl ([.ref (ad 0), .long (lN d)])).length) Slot.unset).toArray = ls at hl ⊢
  have hl : lv_has ls 7 [(0, .ref (ad 0)), (1, .long (lN d))] := hl
  refine lv_lload_n hx hb d_M_readGiven_0 rfl (lv_at hl 1 rfl) ?_
  refine lv_lstore_n (lv' := [(3, .long (lN d)), (0, .ref (ad 0)), (1, .long (lN d))]) hx hb d_M_readGiven_1 rfl hl (by decide) rfl (fun ls hl => ?_)
  refine lv_aload_n hx hb d_M_readGiven_2 rfl (lv_at hl 1 rfl) ?_
  refine lv_iconst (v := nI 0) hx hb d_M_readGiven_3 (by decide) ?_
  refine fv_put (ci := 3) (v := .int (nI 0)) (ty := (.int)) (C := R_M) (T := F_M) (N := 13) hx hb hts (by decide +kernel) t_M t_M_ok n_M hown hK hP hD hS 0 0 rfl rfl rfl 11 (by decide) (hts (.fieldLink R_M 47 "PartShelves$Matching" "pairCount" "I") (by decide +kernel)) (fun _ h9 => h9) rfl (by decide +kernel) (rfl) (rfl) (Nat.le_of_ble_eq_true rfl) d_M_readGiven_4 (fun H locs hP hD hS => ?_)
  have hP : va_P D cls (fl [(wM kC ad sh be ob os oc ar gi pg ag pn an 0 tot)]) H := hP
  have hD : va_D A (fl [(wM kC ad sh be ob os oc ar gi pg ag pn an 0 tot)]) := hD
  refine lv_aload_n hx hb d_M_readGiven_7 rfl (lv_at hl 1 rfl) ?_
  refine fv_get (ci := 3) (v := .int (nI an)) (C := R_M) (T := F_M) (N := 13) hx hb hts (by decide +kernel) hown hK hP 0 0 rfl rfl rfl 10 (by decide) (hts (.fieldLink R_M 44 "PartShelves$Matching" "askCount" "I") (by decide +kernel)) (fun _ h9 => h9) rfl d_M_readGiven_8 ?_
  refine lv_iconst (v := nI 1) hx hb d_M_readGiven_11 (by decide) ?_
  refine lv_isub hx hb d_M_readGiven_12 ?_
  refine lv_istore (lv' := [(5, .int ((nI an) - (nI 1))), (3, .long (lN d)), (0, .ref (ad 0)), (1, .long (lN d))]) hx hb d_M_readGiven_13 hl (by decide) rfl (fun ls hl => ?_)
  have L15 : ∀ (n15 : Nat) (k : Nat) (dd : Nat) (gic : Nat → Int32) (nn : Nat), k < n15 → k ≤ an → dd < 2 ^ 63 → gvF arN k dd gic = gvF arN an d gi → gvN k dd nn = gvN an d 0 → ∀ (H : Heap) (locs : List Loc), va_P D cls (fl [(wM kC ad sh be ob os oc ar gic pg ag pn an nn tot)]) H → va_D A (fl [(wM kC ad sh be ob os oc ar gic pg ag pn an nn tot)]) → va_S A s.heap H locs → ∀ (ls : Array Slot), lv_has ls 7 [(0, .ref (ad 0)), (3, .long (lN dd)), (5, .int (nI k - nI 1))] → W p l e (headSpec w_M_readGiven ({ frames := 0, cells := 0, slots := 0, locals := 0 } : Room)).room s m ([.ref (ad 0), .long (lN d)] : List Value).toArray below meth c H locs 0 0 (MQ below (gQv cls D (tyL kC) (fl [(wM kC ad sh be ob os oc ar gi pg ag pn an prn tot)]) s.heap.size (fl [(wM kC ad sh be ob os oc ar (gvF arN an d gi) pg ag pn an (gvN an d 0) tot)])) ([.ref (ad 0), .long (lN d)] : List Value).toArray s 0 0 (va_A (fl [(wM kC ad sh be ob os oc ar gi pg ag pn an prn tot)]) s.heap.size)) (F0 m 15 ls []) := by
    intro n15
    induction n15 with
    | zero =>
      intro k dd gic nn hm
      exact absurd hm (Nat.not_lt_zero _)
    | succ n15 ih15 =>
      intro k dd gic nn hm hka hdd hG hN H locs hP hD hS ls hl
      refine lv_iload hx hb d_M_readGiven_15 (lv_at hl 2 rfl) ?_
      refine lv_if_lt (tgt := 85) hx hb d_M_readGiven_17 (by decide) (fun hk => ?_) (fun hk => ?_)
      · obtain rfl : k = 0 := (rk_neg (by omega)).mp hk
        have ew1 : gic = (gvF arN an d gi) := hG
        have hP : va_P D cls (fl [(wM kC ad sh be ob os oc ar (gvF arN an d gi) pg ag pn an nn tot)]) H := by rw [← ew1]; exact hP
        have hD : va_D A (fl [(wM kC ad sh be ob os oc ar (gvF arN an d gi) pg ag pn an nn tot)]) := by rw [← ew1]; exact hD
        have ew2 : nn = (gvN an d 0) := hN
        have hP : va_P D cls (fl [(wM kC ad sh be ob os oc ar (gvF arN an d gi) pg ag pn an (gvN an d 0) tot)]) H := by rw [← ew2]; exact hP
        have hD : va_D A (fl [(wM kC ad sh be ob os oc ar (gvF arN an d gi) pg ag pn an (gvN an d 0) tot)]) := by rw [← ew2]; exact hD
        exact W.vret hx hb hr (fun t ht hW => by subst hAe; exact ⟨⟨(), rfl, trivial, by rw [ht]; exact hP, va_K.moved hW.alike hK, hD⟩, hS.F ht⟩) (by subst hAe; exact hS.2.2) d_M_readGiven_85
      · obtain ⟨j, rfl⟩ := rk_pos (by omega) hk
        have el3 : nI (j + 1) - nI 1 = nI j := nI_pred j
        have hl : lv_has ls 7 [(0, .ref (ad 0)), (3, .long (lN dd)), (5, .int (nI j))] := by rw [← el3]; exact hl
        obtain ⟨ha1, ha2⟩ := har j (by omega)
        refine lv_lload_n hx hb d_M_readGiven_20 rfl (lv_at hl 1 rfl) ?_
        refine lv_ldc2 (v := 9) hx hb hown (hts (.constantLong R_M 73 9) (by decide +kernel)) d_M_readGiven_21 ?_
        refine nv_topl (y := lN 9) (by decide +kernel) ?_
        refine nv_lrem hx hb d_M_readGiven_24 (by omega) (by omega) (by omega) ?_
        refine nv_l2i hx hb d_M_readGiven_25 ?_
        refine lv_istore (lv' := [(6, .int (nI (dd % 9))), (0, .ref (ad 0)), (3, .long (lN dd)), (5, .int (nI j))]) hx hb d_M_readGiven_26 hl (by decide) rfl (fun ls hl => ?_)
        refine lv_lload_n hx hb d_M_readGiven_28 rfl (lv_at hl 2 rfl) ?_
        refine lv_ldc2 (v := 9) hx hb hown (hts (.constantLong R_M 73 9) (by decide +kernel)) d_M_readGiven_29 ?_
        refine nv_topl (y := lN 9) (by decide +kernel) ?_
        refine nv_ldiv hx hb d_M_readGiven_32 (by omega) (by omega) (by omega) ?_
        refine lv_lstore_n (lv' := [(3, .long (lN (dd / 9))), (6, .int (nI (dd % 9))), (0, .ref (ad 0)), (5, .int (nI j))]) hx hb d_M_readGiven_33 rfl hl (by decide) rfl (fun ls hl => ?_)
        refine lv_aload_n hx hb d_M_readGiven_34 rfl (lv_at hl 2 rfl) ?_
        refine fv_get (ci := 3) (v := .ref (ad 6)) (C := R_M) (T := F_M) (N := 13) hx hb hts (by decide +kernel) hown hK hP 0 0 rfl rfl rfl 6 (by decide) (hts (.fieldLink R_M 32 "PartShelves$Matching" "given" "[I") (by decide +kernel)) (fun _ h9 => h9) rfl d_M_readGiven_35 ?_
        refine lv_aload_n hx hb d_M_readGiven_38 rfl (lv_at hl 2 rfl) ?_
        refine fv_get (ci := 3) (v := .ref (ad 5)) (C := R_M) (T := F_M) (N := 13) hx hb hts (by decide +kernel) hown hK hP 0 0 rfl rfl rfl 5 (by decide) (hts (.fieldLink R_M 29 "PartShelves$Matching" "askByRank" "[I") (by decide +kernel)) (fun _ h9 => h9) rfl d_M_readGiven_39 ?_
        refine lv_iload hx hb d_M_readGiven_42 (lv_at hl 3 rfl) ?_
        refine fa_iald hx hb hK hP 0 5 0 rfl rfl rfl (by omega) (by decide) d_M_readGiven_44 ?_
        refine nv_topi (y := nI (arN j)) (ha1) ?_
        refine lv_iload hx hb d_M_readGiven_45 (lv_at hl 1 rfl) ?_
        refine nv_if_ne (tgt := 54) hx hb d_M_readGiven_47 (by decide) (by omega) (fun hz => ?_) (fun hz => ?_)
        · refine lv_bipush (v := nI 8) hx hb d_M_readGiven_54 (by decide +kernel) ?_
          refine lv_iload hx hb d_M_readGiven_56 (lv_at hl 1 rfl) ?_
          refine nv_isub hx hb d_M_readGiven_58 (by omega) ?_
          refine fa_iast hx hb hK hP hD hS 0 6 0 rfl rfl rfl (by omega) (by decide) d_M_readGiven_59 (fun H locs hP hD hS => ?_)
          have hP : va_P D cls (fl [(wM kC ad sh be ob os oc ar (upd gic (arN j) (nI (8 - (dd % 9)))) pg ag pn an nn tot)]) H := hP
          have hD : va_D A (fl [(wM kC ad sh be ob os oc ar (upd gic (arN j) (nI (8 - (dd % 9)))) pg ag pn an nn tot)]) := hD
          refine lv_aload_n hx hb d_M_readGiven_60 rfl (lv_at hl 2 rfl) ?_
          refine lv_dup hx hb d_M_readGiven_61 rfl ?_
          refine fv_get (ci := 3) (v := .int (nI nn)) (C := R_M) (T := F_M) (N := 13) hx hb hts (by decide +kernel) hown hK hP 0 0 rfl rfl rfl 11 (by decide) (hts (.fieldLink R_M 47 "PartShelves$Matching" "pairCount" "I") (by decide +kernel)) (fun _ h9 => h9) rfl d_M_readGiven_62 ?_
          refine lv_iload hx hb d_M_readGiven_65 (lv_at hl 1 rfl) ?_
          refine nv_if_ne (tgt := 74) hx hb d_M_readGiven_67 (by decide) (by omega) (fun hz2 => ?_) (fun hz2 => ?_)
          · refine lv_iconst (v := nI 1) hx hb d_M_readGiven_74 (by decide) ?_
            refine nv_iadd hx hb d_M_readGiven_75 ?_
            refine fv_put (ci := 3) (v := .int (nI (nn + 1))) (ty := (.int)) (C := R_M) (T := F_M) (N := 13) hx hb hts (by decide +kernel) t_M t_M_ok n_M hown hK hP hD hS 0 0 rfl rfl rfl 11 (by decide) (hts (.fieldLink R_M 47 "PartShelves$Matching" "pairCount" "I") (by decide +kernel)) (fun _ h9 => h9) rfl (by decide +kernel) (rfl) (rfl) (Nat.le_of_ble_eq_true rfl) d_M_readGiven_76 (fun H locs hP hD hS => ?_)
            have hP : va_P D cls (fl [(wM kC ad sh be ob os oc ar (upd gic (arN j) (nI (8 - (dd % 9)))) pg ag pn an (nn + 1) tot)]) H := hP
            have hD : va_D A (fl [(wM kC ad sh be ob os oc ar (upd gic (arN j) (nI (8 - (dd % 9)))) pg ag pn an (nn + 1) tot)]) := hD
            refine lv_iinc (v := (nI j) - nI 1) (lv' := [(5, .int ((nI j) - nI 1)), (3, .long (lN (dd / 9))), (6, .int (nI (dd % 9))), (0, .ref (ad 0))]) hx hb d_M_readGiven_79 hl (k := 3) rfl (by rw [Int32.sub_eq_add_neg]; rfl) (by decide) rfl (fun ls hl => ?_)
            refine lv_goto (tgt := 15) hx hb d_M_readGiven_82 (by decide) ?_
            exact ih15 j (dd / 9) (upd gic (arN j) (nI (8 - (dd % 9)))) (nn + 1) (by omega) (by omega) (Nat.lt_of_le_of_lt (Nat.div_le_self _ _) hdd) (by rw [← hG]; simp only [gvF]; rw [if_neg hz]) (by rw [← hN]; simp only [gvN]; rw [if_neg hz]) _ _ hP hD hS ls (lv_sub hl [3, 1, 0] rfl)
          · exact absurd hz2 hz
        · refine lv_iconst (v := (-1)) hx hb d_M_readGiven_50 (by decide) ?_
          refine lv_goto (tgt := 59) hx hb d_M_readGiven_51 (by decide) ?_
          refine fa_iast hx hb hK hP hD hS 0 6 0 rfl rfl rfl (by omega) (by decide) d_M_readGiven_59 (fun H locs hP hD hS => ?_)
          have hP : va_P D cls (fl [(wM kC ad sh be ob os oc ar (upd gic (arN j) (-1)) pg ag pn an nn tot)]) H := hP
          have hD : va_D A (fl [(wM kC ad sh be ob os oc ar (upd gic (arN j) (-1)) pg ag pn an nn tot)]) := hD
          refine lv_aload_n hx hb d_M_readGiven_60 rfl (lv_at hl 2 rfl) ?_
          refine lv_dup hx hb d_M_readGiven_61 rfl ?_
          refine fv_get (ci := 3) (v := .int (nI nn)) (C := R_M) (T := F_M) (N := 13) hx hb hts (by decide +kernel) hown hK hP 0 0 rfl rfl rfl 11 (by decide) (hts (.fieldLink R_M 47 "PartShelves$Matching" "pairCount" "I") (by decide +kernel)) (fun _ h9 => h9) rfl d_M_readGiven_62 ?_
          refine lv_iload hx hb d_M_readGiven_65 (lv_at hl 1 rfl) ?_
          refine nv_if_ne (tgt := 74) hx hb d_M_readGiven_67 (by decide) (by omega) (fun hz2 => ?_) (fun hz2 => ?_)
          · exact absurd hz hz2
          · refine lv_iconst (v := nI 0) hx hb d_M_readGiven_70 (by decide) ?_
            refine lv_goto (tgt := 75) hx hb d_M_readGiven_71 (by decide) ?_
            refine nv_iadd hx hb d_M_readGiven_75 ?_
            refine fv_put (ci := 3) (v := .int (nI (nn + 0))) (ty := (.int)) (C := R_M) (T := F_M) (N := 13) hx hb hts (by decide +kernel) t_M t_M_ok n_M hown hK hP hD hS 0 0 rfl rfl rfl 11 (by decide) (hts (.fieldLink R_M 47 "PartShelves$Matching" "pairCount" "I") (by decide +kernel)) (fun _ h9 => h9) rfl (by decide +kernel) (rfl) (rfl) (Nat.le_of_ble_eq_true rfl) d_M_readGiven_76 (fun H locs hP hD hS => ?_)
            have hP : va_P D cls (fl [(wM kC ad sh be ob os oc ar (upd gic (arN j) (-1)) pg ag pn an (nn + 0) tot)]) H := hP
            have hD : va_D A (fl [(wM kC ad sh be ob os oc ar (upd gic (arN j) (-1)) pg ag pn an (nn + 0) tot)]) := hD
            refine lv_iinc (v := (nI j) - nI 1) (lv' := [(5, .int ((nI j) - nI 1)), (3, .long (lN (dd / 9))), (6, .int (nI (dd % 9))), (0, .ref (ad 0))]) hx hb d_M_readGiven_79 hl (k := 3) rfl (by rw [Int32.sub_eq_add_neg]; rfl) (by decide) rfl (fun ls hl => ?_)
            refine lv_goto (tgt := 15) hx hb d_M_readGiven_82 (by decide) ?_
            exact ih15 j (dd / 9) (upd gic (arN j) (-1)) (nn + 0) (by omega) (by omega) (Nat.lt_of_le_of_lt (Nat.div_le_self _ _) hdd) (by rw [← hG]; simp only [gvF]; rw [if_pos hz]) (by rw [← hN]; simp only [gvN]; rw [if_pos hz]) _ _ hP hD hS ls (lv_sub hl [3, 1, 0] rfl)
  exact L15 _ an d gi 0 (Nat.lt_succ_self _) (Nat.le_refl _) (hd) (rfl) (rfl) _ _ hP hD hS ls (lv_sub hl [2, 1, 0] rfl)

abbrev b_M_readGains : ByteArray := prog_4_method_14_code
def y_M_readGains : MethodName := ⟨"PartShelves$Matching", "readGains", "([JI)V"⟩
theorem d_M_readGains_0 : decode b_M_readGains 0 = .ok (.iconst 1, 1) := by decide +kernel
theorem d_M_readGains_1 : decode b_M_readGains 1 = .ok (.iload_n 2, 1) := by decide +kernel
theorem d_M_readGains_2 : decode b_M_readGains 2 = .ok (.ishl, 1) := by decide +kernel
theorem d_M_readGains_3 : decode b_M_readGains 3 = .ok (.iconst 1, 1) := by decide +kernel
theorem d_M_readGains_4 : decode b_M_readGains 4 = .ok (.isub, 1) := by decide +kernel
theorem d_M_readGains_5 : decode b_M_readGains 5 = .ok (.istore_n 3, 1) := by decide +kernel
theorem d_M_readGains_6 : decode b_M_readGains 6 = .ok (.iconst 0, 1) := by decide +kernel
theorem d_M_readGains_7 : decode b_M_readGains 7 = .ok (.istore 4, 2) := by decide +kernel
theorem d_M_readGains_9 : decode b_M_readGains 9 = .ok (.iload 4, 2) := by decide +kernel
theorem d_M_readGains_11 : decode b_M_readGains 11 = .ok (.iload_n 2, 1) := by decide +kernel
theorem d_M_readGains_12 : decode b_M_readGains 12 = .ok (.if_icmp .ge 33, 3) := by decide +kernel
theorem d_M_readGains_15 : decode b_M_readGains 15 = .ok (.aload_n 1, 1) := by decide +kernel
theorem d_M_readGains_16 : decode b_M_readGains 16 = .ok (.iload 4, 2) := by decide +kernel
theorem d_M_readGains_18 : decode b_M_readGains 18 = .ok (.aload_n 0, 1) := by decide +kernel
theorem d_M_readGains_19 : decode b_M_readGains 19 = .ok (.getfield 52, 3) := by decide +kernel
theorem d_M_readGains_22 : decode b_M_readGains 22 = .ok (.aload_n 0, 1) := by decide +kernel
theorem d_M_readGains_23 : decode b_M_readGains 23 = .ok (.getfield 15, 3) := by decide +kernel
theorem d_M_readGains_26 : decode b_M_readGains 26 = .ok (.iload_n 3, 1) := by decide +kernel
theorem d_M_readGains_27 : decode b_M_readGains 27 = .ok (.iconst 1, 1) := by decide +kernel
theorem d_M_readGains_28 : decode b_M_readGains 28 = .ok (.iload 4, 2) := by decide +kernel
theorem d_M_readGains_30 : decode b_M_readGains 30 = .ok (.ishl, 1) := by decide +kernel
theorem d_M_readGains_31 : decode b_M_readGains 31 = .ok (.ixor, 1) := by decide +kernel
theorem d_M_readGains_32 : decode b_M_readGains 32 = .ok (.laload, 1) := by decide +kernel
theorem d_M_readGains_33 : decode b_M_readGains 33 = .ok (.ldc2_w 63, 3) := by decide +kernel
theorem d_M_readGains_36 : decode b_M_readGains 36 = .ok (.ldiv, 1) := by decide +kernel
theorem d_M_readGains_37 : decode b_M_readGains 37 = .ok (.lsub, 1) := by decide +kernel
theorem d_M_readGains_38 : decode b_M_readGains 38 = .ok (.lastore, 1) := by decide +kernel
theorem d_M_readGains_39 : decode b_M_readGains 39 = .ok (.iinc 4 1, 3) := by decide +kernel
theorem d_M_readGains_42 : decode b_M_readGains 42 = .ok (.goto (-33), 3) := by decide +kernel
theorem d_M_readGains_45 : decode b_M_readGains 45 = .ok (.return_, 1) := by decide +kernel
def w_M_readGains : List Cond := .code y_M_readGains b_M_readGains 5 none :: ([.fieldLink "PartShelves$Matching" 52 "PartShelves$Matching" "total" "J", .fieldLink "PartShelves$Matching" 15 "PartShelves$Matching" "best" "[J", .constantLong "PartShelves$Matching" 63 43046721] ++ u_ws R_M F_M 13)
set_option maxHeartbeats 4000000 in
set_option maxRecDepth 100000 in
theorem c_M_gainsP (l : Launch) (D : va_G) (kC : Nat → ClassId) (ad : Nat → Nat) (sh : Nat → Int64) (be : Nat → Int64) (ob : Nat → Int32) (os : Nat → Int64) (oc : Nat) (ar : Nat → Int32) (gi : Nat → Int32) (pg : Nat → Int64) (ag : Nat → Int64) (pn : Nat) (an : Nat) (prn : Nat) (tot : Int64) (M : Nat) (sz : Nat) (eM : M ≤ 8) : Met l y_M_readGains w_M_readGains ({ frames := 0, cells := 0, slots := 0, locals := 0 } : Room) (gPre cls D (tyL kC) [.ref (ad 0), .ref (ad 7), .int (nI M)] (fl [(wM kC ad sh be ob os oc ar gi pg ag pn an prn tot)]) sz) (gQv cls D (tyL kC) (fl [(wM kC ad sh be ob os oc ar gi pg ag pn an prn tot)]) sz (fl [(wM kC ad sh be ob os oc ar gi (gnF be pg tot (2 ^ M) M) ag pn an prn tot)])) 0 0 (va_A (fl [(wM kC ad sh be ob os oc ar gi pg ag pn an prn tot)]) sz) := by
  refine Met.ofW (cc := b_M_readGains) (maxL := 5) (ret := none) (by decide) rfl ?_
  intro p e s m args below meth c s₁ B hml hv
  obtain ⟨rfl, hsz, hP, hK, hD0⟩ := hv
  have hx := B.exec
  have hb := B.bytes
  have hr := B.returns
  have hts := atoms_spec (ws := w_M_readGains) B.pre
  have hown : s.vm.findClass R_M = some m.cls := findClass_of_methodNamed B.named
  have hlocks := B.notSynchronized
  subst hsz
  obtain ⟨A, hAe⟩ : ∃ A : Nat → Prop, A = va_A (fl [(wM kC ad sh be ob os oc ar gi pg ag pn an prn tot)]) s.heap.size := ⟨_, rfl⟩
  have hD : va_D A (fl [(wM kC ad sh be ob os oc ar gi pg ag pn an prn tot)]) := by rw [hAe]; exact hD0.self
  have hA : ∀ q : Nat, s.heap.size ≤ q → A q := fun q h => by rw [hAe]; exact Or.inr h
  have hS : va_S A s.heap s.heap [] := va_S.rf
  have hl := lv_entry ([.ref (ad 0), .ref (ad 7), .int (nI M)]) (n := 5) (Nat.le_of_ble_eq_true rfl)
  rw [lg_entry_eq]
  generalize (lg_sl ([.ref (ad 0), .ref (ad 7), .int (nI M)]) ++ List.replicate (5 - (lg_sl ([.ref (ad 0), .ref (ad 7), .int (nI M)])).length) Slot.unset).toArray = ls at hl ⊢
  have hl : lv_has ls 5 [(0, .ref (ad 0)), (1, .ref (ad 7)), (2, .int (nI M))] := hl
  obtain ⟨S, eS⟩ : ∃ S, S = 2 ^ M := ⟨_, rfl⟩
  obtain ⟨hS0, hS1⟩ := pow_in eS eM
  refine lv_iconst (v := nI 1) hx hb d_M_readGains_0 (by decide) ?_
  refine lv_iload_n hx hb d_M_readGains_1 rfl (lv_at hl 2 rfl) ?_
  refine lv_ishl hx hb d_M_readGains_2 ?_
  refine nv_topi (y := nI S) (by rw [eS]; exact shl1 M (by omega)) ?_
  refine lv_iconst (v := nI 1) hx hb d_M_readGains_3 (by decide) ?_
  refine nv_isub hx hb d_M_readGains_4 (by omega) ?_
  refine lv_istore_n (lv' := [(3, .int (nI (S - 1))), (0, .ref (ad 0)), (1, .ref (ad 7)), (2, .int (nI M))]) hx hb d_M_readGains_5 rfl hl (by decide) rfl (fun ls hl => ?_)
  refine lv_iconst (v := nI 0) hx hb d_M_readGains_6 (by decide) ?_
  refine lv_istore (lv' := [(4, .int (nI 0)), (3, .int (nI (S - 1))), (0, .ref (ad 0)), (1, .ref (ad 7)), (2, .int (nI M))]) hx hb d_M_readGains_7 hl (by decide) rfl (fun ls hl => ?_)
  have L9 : ∀ (n9 : Nat) (i : Nat), M - i < n9 → i ≤ M → ∀ (H : Heap) (locs : List Loc), va_P D cls (fl [(wM kC ad sh be ob os oc ar gi (gnF be pg tot S i) ag pn an prn tot)]) H → va_D A (fl [(wM kC ad sh be ob os oc ar gi (gnF be pg tot S i) ag pn an prn tot)]) → va_S A s.heap H locs → ∀ (ls : Array Slot), lv_has ls 5 [(0, .ref (ad 0)), (1, .ref (ad 7)), (2, .int (nI M)), (3, .int (nI (S - 1))), (4, .int (nI i))] → W p l e (headSpec w_M_readGains ({ frames := 0, cells := 0, slots := 0, locals := 0 } : Room)).room s m ([.ref (ad 0), .ref (ad 7), .int (nI M)] : List Value).toArray below meth c H locs 0 0 (MQ below (gQv cls D (tyL kC) (fl [(wM kC ad sh be ob os oc ar gi pg ag pn an prn tot)]) s.heap.size (fl [(wM kC ad sh be ob os oc ar gi (gnF be pg tot (2 ^ M) M) ag pn an prn tot)])) ([.ref (ad 0), .ref (ad 7), .int (nI M)] : List Value).toArray s 0 0 (va_A (fl [(wM kC ad sh be ob os oc ar gi pg ag pn an prn tot)]) s.heap.size)) (F0 m 9 ls []) := by
    intro n9
    induction n9 with
    | zero =>
      intro i hm
      exact absurd hm (Nat.not_lt_zero _)
    | succ n9 ih9 =>
      intro i hm hiM H locs hP hD hS ls hl
      refine lv_iload hx hb d_M_readGains_9 (lv_at hl 4 rfl) ?_
      refine lv_iload_n hx hb d_M_readGains_11 rfl (lv_at hl 2 rfl) ?_
      refine nv_icmp_ge (tgt := 45) hx hb d_M_readGains_12 (by decide) (by omega) (by omega) (fun hi => ?_) (fun hi => ?_)
      · obtain rfl : M = i := by omega
        subst eS
        exact W.vret hx hb hr (fun t ht hW => by subst hAe; exact ⟨⟨(), rfl, trivial, by rw [ht]; exact hP, va_K.moved hW.alike hK, hD⟩, hS.F ht⟩) (by subst hAe; exact hS.2.2) d_M_readGains_45
      · have h2i : 2 ^ i < S := by rw [eS]; exact Nat.pow_lt_pow_right (by decide) hi
        refine lv_aload_n hx hb d_M_readGains_15 rfl (lv_at hl 1 rfl) ?_
        refine lv_iload hx hb d_M_readGains_16 (lv_at hl 4 rfl) ?_
        refine lv_aload_n hx hb d_M_readGains_18 rfl (lv_at hl 0 rfl) ?_
        refine fv_get (ci := 3) (v := .long tot) (C := R_M) (T := F_M) (N := 13) hx hb hts (by decide +kernel) hown hK hP 0 0 rfl rfl rfl 12 (by decide) (hts (.fieldLink R_M 52 "PartShelves$Matching" "total" "J") (by decide +kernel)) (fun _ h9 => h9) rfl d_M_readGains_19 ?_
        refine lv_aload_n hx hb d_M_readGains_22 rfl (lv_at hl 0 rfl) ?_
        refine fv_get (ci := 3) (v := .ref (ad 2)) (C := R_M) (T := F_M) (N := 13) hx hb hts (by decide +kernel) hown hK hP 0 0 rfl rfl rfl 1 (by decide) (hts (.fieldLink R_M 15 "PartShelves$Matching" "best" "[J") (by decide +kernel)) (fun _ h9 => h9) rfl d_M_readGains_23 ?_
        refine lv_iload_n hx hb d_M_readGains_26 rfl (lv_at hl 3 rfl) ?_
        refine lv_iconst (v := nI 1) hx hb d_M_readGains_27 (by decide) ?_
        refine lv_iload hx hb d_M_readGains_28 (lv_at hl 4 rfl) ?_
        refine lv_ishl hx hb d_M_readGains_30 ?_
        refine nv_topi (y := nI (2 ^ i)) (shl1 i (by omega)) ?_
        refine lv_ixor hx hb d_M_readGains_31 ?_
        refine nv_topi (y := nI ((S - 1) ^^^ 2 ^ i)) (nx_xor _ _) ?_
        refine fa_lald hx hb hK hP 0 2 1 rfl rfl rfl (Nat.lt_of_lt_of_le (xor_in eS (by omega) h2i) hS1) (by decide) d_M_readGains_32 ?_
        refine lv_ldc2 (v := 43046721) hx hb hown (hts (.constantLong R_M 63 43046721) (by decide +kernel)) d_M_readGains_33 ?_
        refine nv_topl (y := lN 43046721) (by decide +kernel) ?_
        refine lv_ldiv hx hb d_M_readGains_36 (by decide +kernel) ?_
        refine lv_lsub hx hb d_M_readGains_37 ?_
        refine fa_last hx hb hK hP hD hS 0 7 1 rfl rfl rfl (by omega) (by decide) d_M_readGains_38 (fun H locs hP hD hS => ?_)
        have hP : va_P D cls (fl [(wM kC ad sh be ob os oc ar gi (vp_updL (gnF be pg tot S i) i (tot - ((be ((S - 1) ^^^ 2 ^ i)) / (lN 43046721)))) ag pn an prn tot)]) H := hP
        have hD : va_D A (fl [(wM kC ad sh be ob os oc ar gi (vp_updL (gnF be pg tot S i) i (tot - ((be ((S - 1) ^^^ 2 ^ i)) / (lN 43046721)))) ag pn an prn tot)]) := hD
        refine lv_iinc (v := nI (i + 1)) (lv' := [(4, .int (nI (i + 1))), (0, .ref (ad 0)), (1, .ref (ad 7)), (2, .int (nI M)), (3, .int (nI (S - 1)))]) hx hb d_M_readGains_39 hl (k := 4) rfl (nI_1 i) (by decide) rfl (fun ls hl => ?_)
        refine lv_goto (tgt := 9) hx hb d_M_readGains_42 (by decide) ?_
        have ew1 : (vp_updL (gnF be pg tot S i) i (tot - ((be ((S - 1) ^^^ 2 ^ i)) / (lN 43046721)))) = (gnF be pg tot S (i + 1)) := gnF_s _ _ _ _ _
        have hP : va_P D cls (fl [(wM kC ad sh be ob os oc ar gi (gnF be pg tot S (i + 1)) ag pn an prn tot)]) H := by rw [← ew1]; exact hP
        have hD : va_D A (fl [(wM kC ad sh be ob os oc ar gi (gnF be pg tot S (i + 1)) ag pn an prn tot)]) := by rw [← ew1]; exact hD
        exact ih9 (i + 1) (by omega) (hi) _ _ hP hD hS ls (lv_sub hl [1, 2, 3, 4, 0] rfl)
  have ew2 : pg = (gnF be pg tot S 0) := (gnF_0 _ _ _ _).symm
  have hP : va_P D cls (fl [(wM kC ad sh be ob os oc ar gi (gnF be pg tot S 0) ag pn an prn tot)]) s.heap := by rw [← ew2]; exact hP
  have hD : va_D A (fl [(wM kC ad sh be ob os oc ar gi (gnF be pg tot S 0) ag pn an prn tot)]) := by rw [← ew2]; exact hD
  exact L9 _ 0 (Nat.lt_succ_self _) (Nat.zero_le _) _ _ hP hD hS ls (lv_sub hl [2, 3, 4, 1, 0] rfl)

set_option maxHeartbeats 4000000 in
set_option maxRecDepth 100000 in
theorem c_M_gainsA (l : Launch) (D : va_G) (kC : Nat → ClassId) (ad : Nat → Nat) (sh : Nat → Int64) (be : Nat → Int64) (ob : Nat → Int32) (os : Nat → Int64) (oc : Nat) (ar : Nat → Int32) (gi : Nat → Int32) (pg : Nat → Int64) (ag : Nat → Int64) (pn : Nat) (an : Nat) (prn : Nat) (tot : Int64) (M : Nat) (sz : Nat) (eM : M ≤ 8) : Met l y_M_readGains w_M_readGains ({ frames := 0, cells := 0, slots := 0, locals := 0 } : Room) (gPre cls D (tyL kC) [.ref (ad 0), .ref (ad 8), .int (nI M)] (fl [(wM kC ad sh be ob os oc ar gi pg ag pn an prn tot)]) sz) (gQv cls D (tyL kC) (fl [(wM kC ad sh be ob os oc ar gi pg ag pn an prn tot)]) sz (fl [(wM kC ad sh be ob os oc ar gi pg (gnF be ag tot (2 ^ M) M) pn an prn tot)])) 0 0 (va_A (fl [(wM kC ad sh be ob os oc ar gi pg ag pn an prn tot)]) sz) := by
  refine Met.ofW (cc := b_M_readGains) (maxL := 5) (ret := none) (by decide) rfl ?_
  intro p e s m args below meth c s₁ B hml hv
  obtain ⟨rfl, hsz, hP, hK, hD0⟩ := hv
  have hx := B.exec
  have hb := B.bytes
  have hr := B.returns
  have hts := atoms_spec (ws := w_M_readGains) B.pre
  have hown : s.vm.findClass R_M = some m.cls := findClass_of_methodNamed B.named
  have hlocks := B.notSynchronized
  subst hsz
  obtain ⟨A, hAe⟩ : ∃ A : Nat → Prop, A = va_A (fl [(wM kC ad sh be ob os oc ar gi pg ag pn an prn tot)]) s.heap.size := ⟨_, rfl⟩
  have hD : va_D A (fl [(wM kC ad sh be ob os oc ar gi pg ag pn an prn tot)]) := by rw [hAe]; exact hD0.self
  have hA : ∀ q : Nat, s.heap.size ≤ q → A q := fun q h => by rw [hAe]; exact Or.inr h
  have hS : va_S A s.heap s.heap [] := va_S.rf
  have hl := lv_entry ([.ref (ad 0), .ref (ad 8), .int (nI M)]) (n := 5) (Nat.le_of_ble_eq_true rfl)
  rw [lg_entry_eq]
  generalize (lg_sl ([.ref (ad 0), .ref (ad 8), .int (nI M)]) ++ List.replicate (5 - (lg_sl ([.ref (ad 0), .ref (ad 8), .int (nI M)])).length) Slot.unset).toArray = ls at hl ⊢
  have hl : lv_has ls 5 [(0, .ref (ad 0)), (1, .ref (ad 8)), (2, .int (nI M))] := hl
  obtain ⟨S, eS⟩ : ∃ S, S = 2 ^ M := ⟨_, rfl⟩
  obtain ⟨hS0, hS1⟩ := pow_in eS eM
  refine lv_iconst (v := nI 1) hx hb d_M_readGains_0 (by decide) ?_
  refine lv_iload_n hx hb d_M_readGains_1 rfl (lv_at hl 2 rfl) ?_
  refine lv_ishl hx hb d_M_readGains_2 ?_
  refine nv_topi (y := nI S) (by rw [eS]; exact shl1 M (by omega)) ?_
  refine lv_iconst (v := nI 1) hx hb d_M_readGains_3 (by decide) ?_
  refine nv_isub hx hb d_M_readGains_4 (by omega) ?_
  refine lv_istore_n (lv' := [(3, .int (nI (S - 1))), (0, .ref (ad 0)), (1, .ref (ad 8)), (2, .int (nI M))]) hx hb d_M_readGains_5 rfl hl (by decide) rfl (fun ls hl => ?_)
  refine lv_iconst (v := nI 0) hx hb d_M_readGains_6 (by decide) ?_
  refine lv_istore (lv' := [(4, .int (nI 0)), (3, .int (nI (S - 1))), (0, .ref (ad 0)), (1, .ref (ad 8)), (2, .int (nI M))]) hx hb d_M_readGains_7 hl (by decide) rfl (fun ls hl => ?_)
  have L9 : ∀ (n9 : Nat) (i : Nat), M - i < n9 → i ≤ M → ∀ (H : Heap) (locs : List Loc), va_P D cls (fl [(wM kC ad sh be ob os oc ar gi pg (gnF be ag tot S i) pn an prn tot)]) H → va_D A (fl [(wM kC ad sh be ob os oc ar gi pg (gnF be ag tot S i) pn an prn tot)]) → va_S A s.heap H locs → ∀ (ls : Array Slot), lv_has ls 5 [(0, .ref (ad 0)), (1, .ref (ad 8)), (2, .int (nI M)), (3, .int (nI (S - 1))), (4, .int (nI i))] → W p l e (headSpec w_M_readGains ({ frames := 0, cells := 0, slots := 0, locals := 0 } : Room)).room s m ([.ref (ad 0), .ref (ad 8), .int (nI M)] : List Value).toArray below meth c H locs 0 0 (MQ below (gQv cls D (tyL kC) (fl [(wM kC ad sh be ob os oc ar gi pg ag pn an prn tot)]) s.heap.size (fl [(wM kC ad sh be ob os oc ar gi pg (gnF be ag tot (2 ^ M) M) pn an prn tot)])) ([.ref (ad 0), .ref (ad 8), .int (nI M)] : List Value).toArray s 0 0 (va_A (fl [(wM kC ad sh be ob os oc ar gi pg ag pn an prn tot)]) s.heap.size)) (F0 m 9 ls []) := by
    intro n9
    induction n9 with
    | zero =>
      intro i hm
      exact absurd hm (Nat.not_lt_zero _)
    | succ n9 ih9 =>
      intro i hm hiM H locs hP hD hS ls hl
      refine lv_iload hx hb d_M_readGains_9 (lv_at hl 4 rfl) ?_
      refine lv_iload_n hx hb d_M_readGains_11 rfl (lv_at hl 2 rfl) ?_
      refine nv_icmp_ge (tgt := 45) hx hb d_M_readGains_12 (by decide) (by omega) (by omega) (fun hi => ?_) (fun hi => ?_)
      · obtain rfl : M = i := by omega
        subst eS
        exact W.vret hx hb hr (fun t ht hW => by subst hAe; exact ⟨⟨(), rfl, trivial, by rw [ht]; exact hP, va_K.moved hW.alike hK, hD⟩, hS.F ht⟩) (by subst hAe; exact hS.2.2) d_M_readGains_45
      · have h2i : 2 ^ i < S := by rw [eS]; exact Nat.pow_lt_pow_right (by decide) hi
        refine lv_aload_n hx hb d_M_readGains_15 rfl (lv_at hl 1 rfl) ?_
        refine lv_iload hx hb d_M_readGains_16 (lv_at hl 4 rfl) ?_
        refine lv_aload_n hx hb d_M_readGains_18 rfl (lv_at hl 0 rfl) ?_
        refine fv_get (ci := 3) (v := .long tot) (C := R_M) (T := F_M) (N := 13) hx hb hts (by decide +kernel) hown hK hP 0 0 rfl rfl rfl 12 (by decide) (hts (.fieldLink R_M 52 "PartShelves$Matching" "total" "J") (by decide +kernel)) (fun _ h9 => h9) rfl d_M_readGains_19 ?_
        refine lv_aload_n hx hb d_M_readGains_22 rfl (lv_at hl 0 rfl) ?_
        refine fv_get (ci := 3) (v := .ref (ad 2)) (C := R_M) (T := F_M) (N := 13) hx hb hts (by decide +kernel) hown hK hP 0 0 rfl rfl rfl 1 (by decide) (hts (.fieldLink R_M 15 "PartShelves$Matching" "best" "[J") (by decide +kernel)) (fun _ h9 => h9) rfl d_M_readGains_23 ?_
        refine lv_iload_n hx hb d_M_readGains_26 rfl (lv_at hl 3 rfl) ?_
        refine lv_iconst (v := nI 1) hx hb d_M_readGains_27 (by decide) ?_
        refine lv_iload hx hb d_M_readGains_28 (lv_at hl 4 rfl) ?_
        refine lv_ishl hx hb d_M_readGains_30 ?_
        refine nv_topi (y := nI (2 ^ i)) (shl1 i (by omega)) ?_
        refine lv_ixor hx hb d_M_readGains_31 ?_
        refine nv_topi (y := nI ((S - 1) ^^^ 2 ^ i)) (nx_xor _ _) ?_
        refine fa_lald hx hb hK hP 0 2 1 rfl rfl rfl (Nat.lt_of_lt_of_le (xor_in eS (by omega) h2i) hS1) (by decide) d_M_readGains_32 ?_
        refine lv_ldc2 (v := 43046721) hx hb hown (hts (.constantLong R_M 63 43046721) (by decide +kernel)) d_M_readGains_33 ?_
        refine nv_topl (y := lN 43046721) (by decide +kernel) ?_
        refine lv_ldiv hx hb d_M_readGains_36 (by decide +kernel) ?_
        refine lv_lsub hx hb d_M_readGains_37 ?_
        refine fa_last hx hb hK hP hD hS 0 8 1 rfl rfl rfl (by omega) (by decide) d_M_readGains_38 (fun H locs hP hD hS => ?_)
        have hP : va_P D cls (fl [(wM kC ad sh be ob os oc ar gi pg (vp_updL (gnF be ag tot S i) i (tot - ((be ((S - 1) ^^^ 2 ^ i)) / (lN 43046721)))) pn an prn tot)]) H := hP
        have hD : va_D A (fl [(wM kC ad sh be ob os oc ar gi pg (vp_updL (gnF be ag tot S i) i (tot - ((be ((S - 1) ^^^ 2 ^ i)) / (lN 43046721)))) pn an prn tot)]) := hD
        refine lv_iinc (v := nI (i + 1)) (lv' := [(4, .int (nI (i + 1))), (0, .ref (ad 0)), (1, .ref (ad 8)), (2, .int (nI M)), (3, .int (nI (S - 1)))]) hx hb d_M_readGains_39 hl (k := 4) rfl (nI_1 i) (by decide) rfl (fun ls hl => ?_)
        refine lv_goto (tgt := 9) hx hb d_M_readGains_42 (by decide) ?_
        have ew1 : (vp_updL (gnF be ag tot S i) i (tot - ((be ((S - 1) ^^^ 2 ^ i)) / (lN 43046721)))) = (gnF be ag tot S (i + 1)) := gnF_s _ _ _ _ _
        have hP : va_P D cls (fl [(wM kC ad sh be ob os oc ar gi pg (gnF be ag tot S (i + 1)) pn an prn tot)]) H := by rw [← ew1]; exact hP
        have hD : va_D A (fl [(wM kC ad sh be ob os oc ar gi pg (gnF be ag tot S (i + 1)) pn an prn tot)]) := by rw [← ew1]; exact hD
        exact ih9 (i + 1) (by omega) (hi) _ _ hP hD hS ls (lv_sub hl [1, 2, 3, 4, 0] rfl)
  have ew2 : ag = (gnF be ag tot S 0) := (gnF_0 _ _ _ _).symm
  have hP : va_P D cls (fl [(wM kC ad sh be ob os oc ar gi pg (gnF be ag tot S 0) pn an prn tot)]) s.heap := by rw [← ew2]; exact hP
  have hD : va_D A (fl [(wM kC ad sh be ob os oc ar gi pg (gnF be ag tot S 0) pn an prn tot)]) := by rw [← ew2]; exact hD
  exact L9 _ 0 (Nat.lt_succ_self _) (Nat.zero_le _) _ _ hP hD hS ls (lv_sub hl [2, 3, 4, 1, 0] rfl)

