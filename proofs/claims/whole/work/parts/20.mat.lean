/-- the matching's cells -/
def wM (kC : Nat → ClassId) (ad : Nat → Nat) (sh : Nat → Int64) (be : Nat → Int64) (ob : Nat → Int32) (os : Nat → Int64) (oc : Nat) (ar : Nat → Int32) (gi : Nat → Int32) (pg : Nat → Int64) (ag : Nat → Int64) (pn : Nat) (an : Nat) (prn : Nat) (tot : Int64) : va_W := [(ad 0, .inr (3, [.ref (ad 1), .ref (ad 2), .ref (ad 3), .ref (ad 4), .int (nI oc), .ref (ad 5), .ref (ad 6), .ref (ad 7), .ref (ad 8), .int (nI pn), .int (nI an), .int (nI prn), .long tot])), (ad 1, .inl (kC 1, 64, .inr (.inl sh))), (ad 2, .inl (kC 1, 256, .inr (.inl be))), (ad 3, .inl (kC 0, 8, .inl ob)), (ad 4, .inl (kC 1, 8, .inr (.inl os))), (ad 5, .inl (kC 0, 8, .inl ar)), (ad 6, .inl (kC 0, 8, .inl gi)), (ad 7, .inl (kC 1, 8, .inr (.inl pg))), (ad 8, .inl (kC 1, 8, .inr (.inl ag)))]
abbrev b_M_addRow : ByteArray := prog_4_method_12_code
def y_M_addRow : MethodName := ⟨"PartShelves$Matching", "addRow", "(I)V"⟩
theorem d_M_addRow_0 : decode b_M_addRow 0 = .ok (.iload_n 1, 1) := by decide +kernel
theorem d_M_addRow_1 : decode b_M_addRow 1 = .ok (.iconst 1, 1) := by decide +kernel
theorem d_M_addRow_2 : decode b_M_addRow 2 = .ok (.isub, 1) := by decide +kernel
theorem d_M_addRow_3 : decode b_M_addRow 3 = .ok (.istore_n 2, 1) := by decide +kernel
theorem d_M_addRow_4 : decode b_M_addRow 4 = .ok (.iload_n 2, 1) := by decide +kernel
theorem d_M_addRow_5 : decode b_M_addRow 5 = .ok (.ifCond .le 79, 3) := by decide +kernel
theorem d_M_addRow_8 : decode b_M_addRow 8 = .ok (.aload_n 0, 1) := by decide +kernel
theorem d_M_addRow_9 : decode b_M_addRow 9 = .ok (.getfield 15, 3) := by decide +kernel
theorem d_M_addRow_12 : decode b_M_addRow 12 = .ok (.iload_n 2, 1) := by decide +kernel
theorem d_M_addRow_13 : decode b_M_addRow 13 = .ok (.laload, 1) := by decide +kernel
theorem d_M_addRow_14 : decode b_M_addRow 14 = .ok (.lstore_n 3, 1) := by decide +kernel
theorem d_M_addRow_15 : decode b_M_addRow 15 = .ok (.iconst 0, 1) := by decide +kernel
theorem d_M_addRow_16 : decode b_M_addRow 16 = .ok (.istore 5, 2) := by decide +kernel
theorem d_M_addRow_18 : decode b_M_addRow 18 = .ok (.iload 5, 2) := by decide +kernel
theorem d_M_addRow_20 : decode b_M_addRow 20 = .ok (.aload_n 0, 1) := by decide +kernel
theorem d_M_addRow_21 : decode b_M_addRow 21 = .ok (.getfield 25, 3) := by decide +kernel
theorem d_M_addRow_24 : decode b_M_addRow 24 = .ok (.if_icmp .ge 47, 3) := by decide +kernel
theorem d_M_addRow_27 : decode b_M_addRow 27 = .ok (.aload_n 0, 1) := by decide +kernel
theorem d_M_addRow_28 : decode b_M_addRow 28 = .ok (.getfield 18, 3) := by decide +kernel
theorem d_M_addRow_31 : decode b_M_addRow 31 = .ok (.iload 5, 2) := by decide +kernel
theorem d_M_addRow_33 : decode b_M_addRow 33 = .ok (.iaload, 1) := by decide +kernel
theorem d_M_addRow_34 : decode b_M_addRow 34 = .ok (.istore 6, 2) := by decide +kernel
theorem d_M_addRow_36 : decode b_M_addRow 36 = .ok (.iload_n 2, 1) := by decide +kernel
theorem d_M_addRow_37 : decode b_M_addRow 37 = .ok (.iload 6, 2) := by decide +kernel
theorem d_M_addRow_39 : decode b_M_addRow 39 = .ok (.iand, 1) := by decide +kernel
theorem d_M_addRow_40 : decode b_M_addRow 40 = .ok (.ifCond .eq 25, 3) := by decide +kernel
theorem d_M_addRow_43 : decode b_M_addRow 43 = .ok (.lload_n 3, 1) := by decide +kernel
theorem d_M_addRow_44 : decode b_M_addRow 44 = .ok (.aload_n 0, 1) := by decide +kernel
theorem d_M_addRow_45 : decode b_M_addRow 45 = .ok (.getfield 15, 3) := by decide +kernel
theorem d_M_addRow_48 : decode b_M_addRow 48 = .ok (.iload_n 2, 1) := by decide +kernel
theorem d_M_addRow_49 : decode b_M_addRow 49 = .ok (.iload 6, 2) := by decide +kernel
theorem d_M_addRow_51 : decode b_M_addRow 51 = .ok (.ixor, 1) := by decide +kernel
theorem d_M_addRow_52 : decode b_M_addRow 52 = .ok (.laload, 1) := by decide +kernel
theorem d_M_addRow_53 : decode b_M_addRow 53 = .ok (.aload_n 0, 1) := by decide +kernel
theorem d_M_addRow_54 : decode b_M_addRow 54 = .ok (.getfield 22, 3) := by decide +kernel
theorem d_M_addRow_57 : decode b_M_addRow 57 = .ok (.iload 5, 2) := by decide +kernel
theorem d_M_addRow_59 : decode b_M_addRow 59 = .ok (.laload, 1) := by decide +kernel
theorem d_M_addRow_60 : decode b_M_addRow 60 = .ok (.ladd, 1) := by decide +kernel
theorem d_M_addRow_61 : decode b_M_addRow 61 = .ok (.invokestatic 83, 3) := by decide +kernel
theorem d_M_addRow_64 : decode b_M_addRow 64 = .ok (.lstore_n 3, 1) := by decide +kernel
theorem d_M_addRow_65 : decode b_M_addRow 65 = .ok (.iinc 5 1, 3) := by decide +kernel
theorem d_M_addRow_68 : decode b_M_addRow 68 = .ok (.goto (-50), 3) := by decide +kernel
theorem d_M_addRow_71 : decode b_M_addRow 71 = .ok (.aload_n 0, 1) := by decide +kernel
theorem d_M_addRow_72 : decode b_M_addRow 72 = .ok (.getfield 15, 3) := by decide +kernel
theorem d_M_addRow_75 : decode b_M_addRow 75 = .ok (.iload_n 2, 1) := by decide +kernel
theorem d_M_addRow_76 : decode b_M_addRow 76 = .ok (.lload_n 3, 1) := by decide +kernel
theorem d_M_addRow_77 : decode b_M_addRow 77 = .ok (.lastore, 1) := by decide +kernel
theorem d_M_addRow_78 : decode b_M_addRow 78 = .ok (.iinc 2 (-1), 3) := by decide +kernel
theorem d_M_addRow_81 : decode b_M_addRow 81 = .ok (.goto (-77), 3) := by decide +kernel
theorem d_M_addRow_84 : decode b_M_addRow 84 = .ok (.return_, 1) := by decide +kernel
def w_M_addRow : List Cond := .code y_M_addRow b_M_addRow 7 none :: ([.fieldLink "PartShelves$Matching" 15 "PartShelves$Matching" "best" "[J", .fieldLink "PartShelves$Matching" 25 "PartShelves$Matching" "optionCount" "I", .fieldLink "PartShelves$Matching" 18 "PartShelves$Matching" "optionBits" "[I", .fieldLink "PartShelves$Matching" 22 "PartShelves$Matching" "optionShares" "[J", .methodLink "PartShelves$Matching" 83 ⟨"java/lang/Math", "max", "(JJ)J"⟩, .static ⟨"java/lang/Math", "max", "(JJ)J"⟩, .initialized "java/lang/Math", .code ⟨"java/lang/Math", "max", "(JJ)J"⟩ prog_14_method_66_code 4 (some .long)] ++ u_ws R_M F_M 13)
set_option maxHeartbeats 4000000 in
set_option maxRecDepth 100000 in
/-- addRow: the sets from the greatest down take one more row -/
theorem c_M_addRow (l : Launch) (D : va_G) (kC : Nat → ClassId) (ad : Nat → Nat) (sh : Nat → Int64) (be : Nat → Int64) (ob : Nat → Int32) (os : Nat → Int64) (oc : Nat) (ar : Nat → Int32) (gi : Nat → Int32) (pg : Nat → Int64) (ag : Nat → Int64) (pn : Nat) (an : Nat) (prn : Nat) (tot : Int64) (S : Nat) (M : Nat) (bt : Nat → Nat) (sz : Nat) (eS : S = 2 ^ M) (eM : M ≤ 8) (hc : oc ≤ 8) (hbt : ∀ i, i < oc → ob i = nI (bt i) ∧ ∃ q, q < M ∧ bt i = 2 ^ q) : Met l y_M_addRow w_M_addRow ({ frames := 1, cells := 0, slots := 0, locals := 15 } : Room) (gPre cls D (tyL kC) [.ref (ad 0), .int (nI S)] (fl [(wM kC ad sh be ob os oc ar gi pg ag pn an prn tot)]) sz) (gQv cls D (tyL kC) (fl [(wM kC ad sh be ob os oc ar gi pg ag pn an prn tot)]) sz (fl [(wM kC ad sh (addRowF be os bt oc S 0) ob os oc ar gi pg ag pn an prn tot)])) 0 0 (va_A (fl [(wM kC ad sh be ob os oc ar gi pg ag pn an prn tot)]) sz) := by
  refine Met.ofW (cc := b_M_addRow) (maxL := 7) (ret := none) (by decide) rfl ?_
  intro p e s m args below meth c s₁ B hml hv
  obtain ⟨rfl, hsz, hP, hK, hD0⟩ := hv
  have hx := B.exec
  have hb := B.bytes
  have hr := B.returns
  have hts := atoms_spec (ws := w_M_addRow) B.pre
  have hown : s.vm.findClass R_M = some m.cls := findClass_of_methodNamed B.named
  have hlocks := B.notSynchronized
  subst hsz
  obtain ⟨A, hAe⟩ : ∃ A : Nat → Prop, A = va_A (fl [(wM kC ad sh be ob os oc ar gi pg ag pn an prn tot)]) s.heap.size := ⟨_, rfl⟩
  have hD : va_D A (fl [(wM kC ad sh be ob os oc ar gi pg ag pn an prn tot)]) := by rw [hAe]; exact hD0.self
  have hA : ∀ q : Nat, s.heap.size ≤ q → A q := fun q h => by rw [hAe]; exact Or.inr h
  have hS : va_S A s.heap s.heap [] := va_S.rf
  have hl := lv_entry ([.ref (ad 0), .int (nI S)]) (n := 7) (Nat.le_of_ble_eq_true rfl)
  rw [lg_entry_eq]
  generalize (lg_sl ([.ref (ad 0), .int (nI S)]) ++ List.replicate (7 - (lg_sl ([.ref (ad 0), .int (nI S)])).length) Slot.unset).toArray = ls at hl ⊢
  have hl : lv_has ls 7 [(0, .ref (ad 0)), (1, .int (nI S))] := hl
  obtain ⟨hS0, hS1⟩ := pow_in eS eM
  refine lv_iload_n hx hb d_M_addRow_0 rfl (lv_at hl 1 rfl) ?_
  refine lv_iconst (v := nI 1) hx hb d_M_addRow_1 (by decide) ?_
  refine nv_isub hx hb d_M_addRow_2 (by omega) ?_
  refine lv_istore_n (lv' := [(2, .int (nI (S - 1))), (0, .ref (ad 0)), (1, .int (nI S))]) hx hb d_M_addRow_3 rfl hl (by decide) rfl (fun ls hl => ?_)
  have L4 : ∀ (n4 : Nat) (k : Nat), k < n4 → k < S → ∀ (H : Heap) (locs : List Loc), va_P D cls (fl [(wM kC ad sh (addRowF be os bt oc S k) ob os oc ar gi pg ag pn an prn tot)]) H → va_D A (fl [(wM kC ad sh (addRowF be os bt oc S k) ob os oc ar gi pg ag pn an prn tot)]) → va_S A s.heap H locs → ∀ (ls : Array Slot), lv_has ls 7 [(0, .ref (ad 0)), (1, .int (nI S)), (2, .int (nI k))] → W p l e (headSpec w_M_addRow ({ frames := 1, cells := 0, slots := 0, locals := 15 } : Room)).room s m ([.ref (ad 0), .int (nI S)] : List Value).toArray below meth c H locs 0 0 (MQ below (gQv cls D (tyL kC) (fl [(wM kC ad sh be ob os oc ar gi pg ag pn an prn tot)]) s.heap.size (fl [(wM kC ad sh (addRowF be os bt oc S 0) ob os oc ar gi pg ag pn an prn tot)])) ([.ref (ad 0), .int (nI S)] : List Value).toArray s 0 0 (va_A (fl [(wM kC ad sh be ob os oc ar gi pg ag pn an prn tot)]) s.heap.size)) (F0 m 4 ls []) := by
    intro n4
    induction n4 with
    | zero =>
      intro k hm
      exact absurd hm (Nat.not_lt_zero _)
    | succ n4 ih4 =>
      intro k hm hk H locs hP hD hS ls hl
      refine lv_iload_n hx hb d_M_addRow_4 rfl (lv_at hl 2 rfl) ?_
      refine nv_if_le (tgt := 84) hx hb d_M_addRow_5 (by decide) (by omega) (fun hk0 => ?_) (fun hk0 => ?_)
      · subst hk0
        exact W.vret hx hb hr (fun t ht hW => by subst hAe; exact ⟨⟨(), rfl, trivial, by rw [ht]; exact hP, va_K.moved hW.alike hK, hD⟩, hS.F ht⟩) (by subst hAe; exact hS.2.2) d_M_addRow_84
      · refine lv_aload_n hx hb d_M_addRow_8 rfl (lv_at hl 0 rfl) ?_
        refine fv_get (ci := 3) (v := .ref (ad 2)) (C := R_M) (T := F_M) (N := 13) hx hb hts (by decide +kernel) hown hK hP 0 0 rfl rfl rfl 1 (by decide) (hts (.fieldLink R_M 15 "PartShelves$Matching" "best" "[J") (by decide +kernel)) (fun _ h9 => h9) rfl d_M_addRow_9 ?_
        refine lv_iload_n hx hb d_M_addRow_12 rfl (lv_at hl 2 rfl) ?_
        refine fa_lald hx hb hK hP 0 2 1 rfl rfl rfl (by omega) (by decide) d_M_addRow_13 ?_
        refine nv_topl (y := rowMost be os bt k 0) (addRowF_le be os bt oc S k k (Nat.le_refl k)) ?_
        refine lv_lstore_n (lv' := [(3, .long (rowMost be os bt k 0)), (0, .ref (ad 0)), (1, .int (nI S)), (2, .int (nI k))]) hx hb d_M_addRow_14 rfl hl (by decide) rfl (fun ls hl => ?_)
        refine lv_iconst (v := nI 0) hx hb d_M_addRow_15 (by decide) ?_
        refine lv_istore (lv' := [(5, .int (nI 0)), (3, .long (rowMost be os bt k 0)), (0, .ref (ad 0)), (1, .int (nI S)), (2, .int (nI k))]) hx hb d_M_addRow_16 hl (by decide) rfl (fun ls hl => ?_)
        have L18 : ∀ (n18 : Nat) (i : Nat), oc - i < n18 → i ≤ oc → ∀ (H : Heap) (locs : List Loc), va_P D cls (fl [(wM kC ad sh (addRowF be os bt oc S k) ob os oc ar gi pg ag pn an prn tot)]) H → va_D A (fl [(wM kC ad sh (addRowF be os bt oc S k) ob os oc ar gi pg ag pn an prn tot)]) → va_S A s.heap H locs → ∀ (ls : Array Slot), lv_has ls 7 [(0, .ref (ad 0)), (1, .int (nI S)), (2, .int (nI k)), (3, .long (rowMost be os bt k i)), (5, .int (nI i))] → W p l e (headSpec w_M_addRow ({ frames := 1, cells := 0, slots := 0, locals := 15 } : Room)).room s m ([.ref (ad 0), .int (nI S)] : List Value).toArray below meth c H locs 0 0 (MQ below (gQv cls D (tyL kC) (fl [(wM kC ad sh be ob os oc ar gi pg ag pn an prn tot)]) s.heap.size (fl [(wM kC ad sh (addRowF be os bt oc S 0) ob os oc ar gi pg ag pn an prn tot)])) ([.ref (ad 0), .int (nI S)] : List Value).toArray s 0 0 (va_A (fl [(wM kC ad sh be ob os oc ar gi pg ag pn an prn tot)]) s.heap.size)) (F0 m 18 ls []) := by
          intro n18
          induction n18 with
          | zero =>
            intro i hm
            exact absurd hm (Nat.not_lt_zero _)
          | succ n18 ih18 =>
            intro i hm hi H locs hP hD hS ls hl
            refine lv_iload hx hb d_M_addRow_18 (lv_at hl 4 rfl) ?_
            refine lv_aload_n hx hb d_M_addRow_20 rfl (lv_at hl 0 rfl) ?_
            refine fv_get (ci := 3) (v := .int (nI oc)) (C := R_M) (T := F_M) (N := 13) hx hb hts (by decide +kernel) hown hK hP 0 0 rfl rfl rfl 4 (by decide) (hts (.fieldLink R_M 25 "PartShelves$Matching" "optionCount" "I") (by decide +kernel)) (fun _ h9 => h9) rfl d_M_addRow_21 ?_
            refine nv_icmp_ge (tgt := 71) hx hb d_M_addRow_24 (by decide) (by omega) (by omega) (fun hic => ?_) (fun hic => ?_)
            · obtain rfl : oc = i := by omega
              refine lv_aload_n hx hb d_M_addRow_71 rfl (lv_at hl 0 rfl) ?_
              refine fv_get (ci := 3) (v := .ref (ad 2)) (C := R_M) (T := F_M) (N := 13) hx hb hts (by decide +kernel) hown hK hP 0 0 rfl rfl rfl 1 (by decide) (hts (.fieldLink R_M 15 "PartShelves$Matching" "best" "[J") (by decide +kernel)) (fun _ h9 => h9) rfl d_M_addRow_72 ?_
              refine lv_iload_n hx hb d_M_addRow_75 rfl (lv_at hl 2 rfl) ?_
              refine lv_lload_n hx hb d_M_addRow_76 rfl (lv_at hl 3 rfl) ?_
              refine fa_last hx hb hK hP hD hS 0 2 1 rfl rfl rfl (by omega) (by decide) d_M_addRow_77 (fun H locs hP hD hS => ?_)
              have hP : va_P D cls (fl [(wM kC ad sh (vp_updL (addRowF be os bt oc S k) k (rowMost be os bt k oc)) ob os oc ar gi pg ag pn an prn tot)]) H := hP
              have hD : va_D A (fl [(wM kC ad sh (vp_updL (addRowF be os bt oc S k) k (rowMost be os bt k oc)) ob os oc ar gi pg ag pn an prn tot)]) := hD
              refine lv_iinc (v := nI (k - 1)) (lv' := [(2, .int (nI (k - 1))), (0, .ref (ad 0)), (1, .int (nI S)), (3, .long (rowMost be os bt k oc)), (5, .int (nI oc))]) hx hb d_M_addRow_78 hl (k := 2) rfl (m1_i hk0) (by decide) rfl (fun ls hl => ?_)
              refine lv_goto (tgt := 4) hx hb d_M_addRow_81 (by decide) ?_
              have ew1 : (vp_updL (addRowF be os bt oc S k) k (rowMost be os bt k oc)) = (addRowF be os bt oc S (k - 1)) := addRowF_s be os bt oc S k hk0 hk
              have hP : va_P D cls (fl [(wM kC ad sh (addRowF be os bt oc S (k - 1)) ob os oc ar gi pg ag pn an prn tot)]) H := by rw [← ew1]; exact hP
              have hD : va_D A (fl [(wM kC ad sh (addRowF be os bt oc S (k - 1)) ob os oc ar gi pg ag pn an prn tot)]) := by rw [← ew1]; exact hD
              exact ih4 (k - 1) (by omega) (by omega) _ _ hP hD hS ls (lv_sub hl [1, 2, 0] rfl)
            · obtain ⟨hob, q, hq, hbq⟩ := hbt i hic
              refine lv_aload_n hx hb d_M_addRow_27 rfl (lv_at hl 0 rfl) ?_
              refine fv_get (ci := 3) (v := .ref (ad 3)) (C := R_M) (T := F_M) (N := 13) hx hb hts (by decide +kernel) hown hK hP 0 0 rfl rfl rfl 2 (by decide) (hts (.fieldLink R_M 18 "PartShelves$Matching" "optionBits" "[I") (by decide +kernel)) (fun _ h9 => h9) rfl d_M_addRow_28 ?_
              refine lv_iload hx hb d_M_addRow_31 (lv_at hl 4 rfl) ?_
              refine fa_iald hx hb hK hP 0 3 0 rfl rfl rfl (by omega) (by decide) d_M_addRow_33 ?_
              refine nv_topi (y := nI (bt i)) (hob) ?_
              refine lv_istore (lv' := [(6, .int (nI (bt i))), (0, .ref (ad 0)), (1, .int (nI S)), (2, .int (nI k)), (3, .long (rowMost be os bt k i)), (5, .int (nI i))]) hx hb d_M_addRow_34 hl (by decide) rfl (fun ls hl => ?_)
              refine lv_iload_n hx hb d_M_addRow_36 rfl (lv_at hl 3 rfl) ?_
              refine lv_iload hx hb d_M_addRow_37 (lv_at hl 0 rfl) ?_
              refine lv_iand hx hb d_M_addRow_39 ?_
              refine nv_topi (y := nI (k &&& bt i)) (nx_and _ _) ?_
              refine nv_if_eq (tgt := 65) hx hb d_M_addRow_40 (by decide) (Nat.lt_of_le_of_lt Nat.and_le_left (by omega)) (fun hb0 => ?_) (fun hb0 => ?_)
              · have el2 : rowMost be os bt k i = rowMost be os bt k (i + 1) := (if_pos hb0).symm
                have hl : lv_has ls 7 [(6, .int (nI (bt i))), (0, .ref (ad 0)), (1, .int (nI S)), (2, .int (nI k)), (3, .long (rowMost be os bt k (i + 1))), (5, .int (nI i))] := by rw [← el2]; exact hl
                refine lv_iinc (v := nI (i + 1)) (lv' := [(5, .int (nI (i + 1))), (6, .int (nI (bt i))), (0, .ref (ad 0)), (1, .int (nI S)), (2, .int (nI k)), (3, .long (rowMost be os bt k (i + 1)))]) hx hb d_M_addRow_65 hl (k := 5) rfl (nI_1 i) (by decide) rfl (fun ls hl => ?_)
                refine lv_goto (tgt := 18) hx hb d_M_addRow_68 (by decide) ?_
                exact ih18 (i + 1) (by omega) (hic) _ _ hP hD hS ls (lv_sub hl [2, 3, 4, 5, 0] rfl)
              · have hxk : k ^^^ bt i < k := by rw [hbq] at hb0 ⊢; exact xor_lt (by omega) (by omega) hb0
                refine lv_lload_n hx hb d_M_addRow_43 rfl (lv_at hl 4 rfl) ?_
                refine lv_aload_n hx hb d_M_addRow_44 rfl (lv_at hl 1 rfl) ?_
                refine fv_get (ci := 3) (v := .ref (ad 2)) (C := R_M) (T := F_M) (N := 13) hx hb hts (by decide +kernel) hown hK hP 0 0 rfl rfl rfl 1 (by decide) (hts (.fieldLink R_M 15 "PartShelves$Matching" "best" "[J") (by decide +kernel)) (fun _ h9 => h9) rfl d_M_addRow_45 ?_
                refine lv_iload_n hx hb d_M_addRow_48 rfl (lv_at hl 3 rfl) ?_
                refine lv_iload hx hb d_M_addRow_49 (lv_at hl 0 rfl) ?_
                refine lv_ixor hx hb d_M_addRow_51 ?_
                refine nv_topi (y := nI (k ^^^ bt i)) (nx_xor _ _) ?_
                refine fa_lald hx hb hK hP 0 2 1 rfl rfl rfl (by omega) (by decide) d_M_addRow_52 ?_
                refine nv_topl (y := be (k ^^^ bt i)) (addRowF_le be os bt oc S k _ (Nat.le_of_lt hxk)) ?_
                refine lv_aload_n hx hb d_M_addRow_53 rfl (lv_at hl 1 rfl) ?_
                refine fv_get (ci := 3) (v := .ref (ad 4)) (C := R_M) (T := F_M) (N := 13) hx hb hts (by decide +kernel) hown hK hP 0 0 rfl rfl rfl 3 (by decide) (hts (.fieldLink R_M 22 "PartShelves$Matching" "optionShares" "[J") (by decide +kernel)) (fun _ h9 => h9) rfl d_M_addRow_54 ?_
                refine lv_iload hx hb d_M_addRow_57 (lv_at hl 5 rfl) ?_
                refine fa_lald hx hb hK hP 0 4 1 rfl rfl rfl (by omega) (by decide) d_M_addRow_59 ?_
                refine lv_ladd hx hb d_M_addRow_60 ?_
                refine va_mmax_long hx hb (by rw [hml]; exact hl.1.symm) hown (hts (.methodLink R_M 83 Lib.MathLoose.max_long.x) (by decide +kernel)) (hts (.static Lib.MathLoose.max_long.x) (by decide +kernel)) (hts (.initialized "java/lang/Math") (by decide +kernel)) (hts _ (List.mem_of_getElem? (i := 8) rfl)) (by decide) (by decide) (Nat.zero_le _) (Nat.zero_le _) d_M_addRow_61 ?_
                refine lv_lstore_n (lv' := [(3, .long (mxL (rowMost be os bt k i) ((be (k ^^^ bt i)) + (os i)))), (6, .int (nI (bt i))), (0, .ref (ad 0)), (1, .int (nI S)), (2, .int (nI k)), (5, .int (nI i))]) hx hb d_M_addRow_64 rfl hl (by decide) rfl (fun ls hl => ?_)
                have el3 : mxL (rowMost be os bt k i) ((be (k ^^^ bt i)) + (os i)) = rowMost be os bt k (i + 1) := (if_neg hb0).symm
                have hl : lv_has ls 7 [(3, .long (rowMost be os bt k (i + 1))), (6, .int (nI (bt i))), (0, .ref (ad 0)), (1, .int (nI S)), (2, .int (nI k)), (5, .int (nI i))] := by rw [← el3]; exact hl
                refine lv_iinc (v := nI (i + 1)) (lv' := [(5, .int (nI (i + 1))), (3, .long (rowMost be os bt k (i + 1))), (6, .int (nI (bt i))), (0, .ref (ad 0)), (1, .int (nI S)), (2, .int (nI k))]) hx hb d_M_addRow_65 hl (k := 5) rfl (nI_1 i) (by decide) rfl (fun ls hl => ?_)
                refine lv_goto (tgt := 18) hx hb d_M_addRow_68 (by decide) ?_
                exact ih18 (i + 1) (by omega) (hic) _ _ hP hD hS ls (lv_sub hl [3, 4, 5, 1, 0] rfl)
        exact L18 _ 0 (Nat.lt_succ_self _) (Nat.zero_le _) _ _ hP hD hS ls (lv_sub hl [2, 3, 4, 1, 0] rfl)
  have ew4 : be = (addRowF be os bt oc S (S - 1)) := (addRowF_S be os bt oc S).symm
  have hP : va_P D cls (fl [(wM kC ad sh (addRowF be os bt oc S (S - 1)) ob os oc ar gi pg ag pn an prn tot)]) s.heap := by rw [← ew4]; exact hP
  have hD : va_D A (fl [(wM kC ad sh (addRowF be os bt oc S (S - 1)) ob os oc ar gi pg ag pn an prn tot)]) := by rw [← ew4]; exact hD
  exact L4 _ (S - 1) (Nat.lt_succ_self _) (by omega) _ _ hP hD hS ls (lv_sub hl [1, 2, 0] rfl)

abbrev b_M_begin : ByteArray := prog_4_method_2_code
def y_M_begin : MethodName := ⟨"PartShelves$Matching", "begin", "(II)V"⟩
theorem d_M_begin_0 : decode b_M_begin 0 = .ok (.aload_n 0, 1) := by decide +kernel
theorem d_M_begin_1 : decode b_M_begin 1 = .ok (.iload_n 1, 1) := by decide +kernel
theorem d_M_begin_2 : decode b_M_begin 2 = .ok (.putfield 41, 3) := by decide +kernel
theorem d_M_begin_5 : decode b_M_begin 5 = .ok (.aload_n 0, 1) := by decide +kernel
theorem d_M_begin_6 : decode b_M_begin 6 = .ok (.iload_n 2, 1) := by decide +kernel
theorem d_M_begin_7 : decode b_M_begin 7 = .ok (.putfield 44, 3) := by decide +kernel
theorem d_M_begin_10 : decode b_M_begin 10 = .ok (.return_, 1) := by decide +kernel
def w_M_begin : List Cond := .code y_M_begin b_M_begin 3 none :: ([.fieldLink "PartShelves$Matching" 41 "PartShelves$Matching" "partCount" "I", .fieldLink "PartShelves$Matching" 44 "PartShelves$Matching" "askCount" "I"] ++ u_ws R_M F_M 13)
set_option maxHeartbeats 4000000 in
set_option maxRecDepth 100000 in
theorem c_M_begin (l : Launch) (D : va_G) (kC : Nat → ClassId) (ad : Nat → Nat) (sh : Nat → Int64) (be : Nat → Int64) (ob : Nat → Int32) (os : Nat → Int64) (oc : Nat) (ar : Nat → Int32) (gi : Nat → Int32) (pg : Nat → Int64) (ag : Nat → Int64) (pn : Nat) (an : Nat) (prn : Nat) (tot : Int64) (x : Nat) (y : Nat) (sz : Nat) : Met l y_M_begin w_M_begin ({ frames := 0, cells := 0, slots := 0, locals := 0 } : Room) (gPre cls D (tyL kC) [.ref (ad 0), .int (nI x), .int (nI y)] (fl [(wM kC ad sh be ob os oc ar gi pg ag pn an prn tot)]) sz) (gQv cls D (tyL kC) (fl [(wM kC ad sh be ob os oc ar gi pg ag pn an prn tot)]) sz (fl [(wM kC ad sh be ob os oc ar gi pg ag x y prn tot)])) 0 0 (va_A (fl [(wM kC ad sh be ob os oc ar gi pg ag pn an prn tot)]) sz) := by
  refine Met.ofW (cc := b_M_begin) (maxL := 3) (ret := none) (by decide) rfl ?_
  intro p e s m args below meth c s₁ B hml hv
  obtain ⟨rfl, hsz, hP, hK, hD0⟩ := hv
  have hx := B.exec
  have hb := B.bytes
  have hr := B.returns
  have hts := atoms_spec (ws := w_M_begin) B.pre
  have hown : s.vm.findClass R_M = some m.cls := findClass_of_methodNamed B.named
  have hlocks := B.notSynchronized
  subst hsz
  obtain ⟨A, hAe⟩ : ∃ A : Nat → Prop, A = va_A (fl [(wM kC ad sh be ob os oc ar gi pg ag pn an prn tot)]) s.heap.size := ⟨_, rfl⟩
  have hD : va_D A (fl [(wM kC ad sh be ob os oc ar gi pg ag pn an prn tot)]) := by rw [hAe]; exact hD0.self
  have hA : ∀ q : Nat, s.heap.size ≤ q → A q := fun q h => by rw [hAe]; exact Or.inr h
  have hS : va_S A s.heap s.heap [] := va_S.rf
  have hl := lv_entry ([.ref (ad 0), .int (nI x), .int (nI y)]) (n := 3) (Nat.le_of_ble_eq_true rfl)
  rw [lg_entry_eq]
  generalize (lg_sl ([.ref (ad 0), .int (nI x), .int (nI y)]) ++ List.replicate (3 - (lg_sl ([.ref (ad 0), .int (nI x), .int (nI y)])).length) Slot.unset).toArray = ls at hl ⊢
  have hl : lv_has ls 3 [(0, .ref (ad 0)), (1, .int (nI x)), (2, .int (nI y))] := hl
  refine lv_aload_n hx hb d_M_begin_0 rfl (lv_at hl 0 rfl) ?_
  refine lv_iload_n hx hb d_M_begin_1 rfl (lv_at hl 1 rfl) ?_
  refine fv_put (ci := 3) (v := .int (nI x)) (ty := (.int)) (C := R_M) (T := F_M) (N := 13) hx hb hts (by decide +kernel) t_M t_M_ok n_M hown hK hP hD hS 0 0 rfl rfl rfl 9 (by decide) (hts (.fieldLink R_M 41 "PartShelves$Matching" "partCount" "I") (by decide +kernel)) (fun _ h9 => h9) rfl (by decide +kernel) (rfl) (rfl) (Nat.le_of_ble_eq_true rfl) d_M_begin_2 (fun H locs hP hD hS => ?_)
  have hP : va_P D cls (fl [(wM kC ad sh be ob os oc ar gi pg ag x an prn tot)]) H := hP
  have hD : va_D A (fl [(wM kC ad sh be ob os oc ar gi pg ag x an prn tot)]) := hD
  refine lv_aload_n hx hb d_M_begin_5 rfl (lv_at hl 0 rfl) ?_
  refine lv_iload_n hx hb d_M_begin_6 rfl (lv_at hl 2 rfl) ?_
  refine fv_put (ci := 3) (v := .int (nI y)) (ty := (.int)) (C := R_M) (T := F_M) (N := 13) hx hb hts (by decide +kernel) t_M t_M_ok n_M hown hK hP hD hS 0 0 rfl rfl rfl 10 (by decide) (hts (.fieldLink R_M 44 "PartShelves$Matching" "askCount" "I") (by decide +kernel)) (fun _ h9 => h9) rfl (by decide +kernel) (rfl) (rfl) (Nat.le_of_ble_eq_true rfl) d_M_begin_7 (fun H locs hP hD hS => ?_)
  have hP : va_P D cls (fl [(wM kC ad sh be ob os oc ar gi pg ag x y prn tot)]) H := hP
  have hD : va_D A (fl [(wM kC ad sh be ob os oc ar gi pg ag x y prn tot)]) := hD
  exact W.vret hx hb hr (fun t ht hW => by subst hAe; exact ⟨⟨(), rfl, trivial, by rw [ht]; exact hP, va_K.moved hW.alike hK, hD⟩, hS.F ht⟩) (by subst hAe; exact hS.2.2) d_M_begin_10

abbrev b_M_stand : ByteArray := prog_4_method_3_code
def y_M_stand : MethodName := ⟨"PartShelves$Matching", "stand", "(II)V"⟩
theorem d_M_stand_0 : decode b_M_stand 0 = .ok (.aload_n 0, 1) := by decide +kernel
theorem d_M_stand_1 : decode b_M_stand 1 = .ok (.getfield 29, 3) := by decide +kernel
theorem d_M_stand_4 : decode b_M_stand 4 = .ok (.iload_n 2, 1) := by decide +kernel
theorem d_M_stand_5 : decode b_M_stand 5 = .ok (.iload_n 1, 1) := by decide +kernel
theorem d_M_stand_6 : decode b_M_stand 6 = .ok (.iastore, 1) := by decide +kernel
theorem d_M_stand_7 : decode b_M_stand 7 = .ok (.return_, 1) := by decide +kernel
def w_M_stand : List Cond := .code y_M_stand b_M_stand 3 none :: ([.fieldLink "PartShelves$Matching" 29 "PartShelves$Matching" "askByRank" "[I"] ++ u_ws R_M F_M 13)
set_option maxHeartbeats 4000000 in
set_option maxRecDepth 100000 in
theorem c_M_stand (l : Launch) (D : va_G) (kC : Nat → ClassId) (ad : Nat → Nat) (sh : Nat → Int64) (be : Nat → Int64) (ob : Nat → Int32) (os : Nat → Int64) (oc : Nat) (ar : Nat → Int32) (gi : Nat → Int32) (pg : Nat → Int64) (ag : Nat → Int64) (pn : Nat) (an : Nat) (prn : Nat) (tot : Int64) (x : Nat) (y : Nat) (sz : Nat) (hy : y < 8) : Met l y_M_stand w_M_stand ({ frames := 0, cells := 0, slots := 0, locals := 0 } : Room) (gPre cls D (tyL kC) [.ref (ad 0), .int (nI x), .int (nI y)] (fl [(wM kC ad sh be ob os oc ar gi pg ag pn an prn tot)]) sz) (gQv cls D (tyL kC) (fl [(wM kC ad sh be ob os oc ar gi pg ag pn an prn tot)]) sz (fl [(wM kC ad sh be ob os oc (upd ar y (nI x)) gi pg ag pn an prn tot)])) 0 0 (va_A (fl [(wM kC ad sh be ob os oc ar gi pg ag pn an prn tot)]) sz) := by
  refine Met.ofW (cc := b_M_stand) (maxL := 3) (ret := none) (by decide) rfl ?_
  intro p e s m args below meth c s₁ B hml hv
  obtain ⟨rfl, hsz, hP, hK, hD0⟩ := hv
  have hx := B.exec
  have hb := B.bytes
  have hr := B.returns
  have hts := atoms_spec (ws := w_M_stand) B.pre
  have hown : s.vm.findClass R_M = some m.cls := findClass_of_methodNamed B.named
  have hlocks := B.notSynchronized
  subst hsz
  obtain ⟨A, hAe⟩ : ∃ A : Nat → Prop, A = va_A (fl [(wM kC ad sh be ob os oc ar gi pg ag pn an prn tot)]) s.heap.size := ⟨_, rfl⟩
  have hD : va_D A (fl [(wM kC ad sh be ob os oc ar gi pg ag pn an prn tot)]) := by rw [hAe]; exact hD0.self
  have hA : ∀ q : Nat, s.heap.size ≤ q → A q := fun q h => by rw [hAe]; exact Or.inr h
  have hS : va_S A s.heap s.heap [] := va_S.rf
  have hl := lv_entry ([.ref (ad 0), .int (nI x), .int (nI y)]) (n := 3) (Nat.le_of_ble_eq_true rfl)
  rw [lg_entry_eq]
  generalize (lg_sl ([.ref (ad 0), .int (nI x), .int (nI y)]) ++ List.replicate (3 - (lg_sl ([.ref (ad 0), .int (nI x), .int (nI y)])).length) Slot.unset).toArray = ls at hl ⊢
  have hl : lv_has ls 3 [(0, .ref (ad 0)), (1, .int (nI x)), (2, .int (nI y))] := hl
  refine lv_aload_n hx hb d_M_stand_0 rfl (lv_at hl 0 rfl) ?_
  refine fv_get (ci := 3) (v := .ref (ad 5)) (C := R_M) (T := F_M) (N := 13) hx hb hts (by decide +kernel) hown hK hP 0 0 rfl rfl rfl 5 (by decide) (hts (.fieldLink R_M 29 "PartShelves$Matching" "askByRank" "[I") (by decide +kernel)) (fun _ h9 => h9) rfl d_M_stand_1 ?_
  refine lv_iload_n hx hb d_M_stand_4 rfl (lv_at hl 2 rfl) ?_
  refine lv_iload_n hx hb d_M_stand_5 rfl (lv_at hl 1 rfl) ?_
  refine fa_iast hx hb hK hP hD hS 0 5 0 rfl rfl rfl (by omega) (by decide) d_M_stand_6 (fun H locs hP hD hS => ?_)
  have hP : va_P D cls (fl [(wM kC ad sh be ob os oc (upd ar y (nI x)) gi pg ag pn an prn tot)]) H := hP
  have hD : va_D A (fl [(wM kC ad sh be ob os oc (upd ar y (nI x)) gi pg ag pn an prn tot)]) := hD
  exact W.vret hx hb hr (fun t ht hW => by subst hAe; exact ⟨⟨(), rfl, trivial, by rw [ht]; exact hP, va_K.moved hW.alike hK, hD⟩, hS.F ht⟩) (by subst hAe; exact hS.2.2) d_M_stand_7

abbrev b_M_offer : ByteArray := prog_4_method_4_code
def y_M_offer : MethodName := ⟨"PartShelves$Matching", "offer", "(IIJ)V"⟩
theorem d_M_offer_0 : decode b_M_offer 0 = .ok (.aload_n 0, 1) := by decide +kernel
theorem d_M_offer_1 : decode b_M_offer 1 = .ok (.getfield 9, 3) := by decide +kernel
theorem d_M_offer_4 : decode b_M_offer 4 = .ok (.iload_n 1, 1) := by decide +kernel
theorem d_M_offer_5 : decode b_M_offer 5 = .ok (.bipush 8, 2) := by decide +kernel
theorem d_M_offer_7 : decode b_M_offer 7 = .ok (.imul, 1) := by decide +kernel
theorem d_M_offer_8 : decode b_M_offer 8 = .ok (.iload_n 2, 1) := by decide +kernel
theorem d_M_offer_9 : decode b_M_offer 9 = .ok (.iadd, 1) := by decide +kernel
theorem d_M_offer_10 : decode b_M_offer 10 = .ok (.lload_n 3, 1) := by decide +kernel
theorem d_M_offer_11 : decode b_M_offer 11 = .ok (.lastore, 1) := by decide +kernel
theorem d_M_offer_12 : decode b_M_offer 12 = .ok (.return_, 1) := by decide +kernel
def w_M_offer : List Cond := .code y_M_offer b_M_offer 5 none :: ([.fieldLink "PartShelves$Matching" 9 "PartShelves$Matching" "shares" "[J"] ++ u_ws R_M F_M 13)
set_option maxHeartbeats 4000000 in
set_option maxRecDepth 100000 in
theorem c_M_offer (l : Launch) (D : va_G) (kC : Nat → ClassId) (ad : Nat → Nat) (sh : Nat → Int64) (be : Nat → Int64) (ob : Nat → Int32) (os : Nat → Int64) (oc : Nat) (ar : Nat → Int32) (gi : Nat → Int32) (pg : Nat → Int64) (ag : Nat → Int64) (pn : Nat) (an : Nat) (prn : Nat) (tot : Int64) (x : Nat) (y : Nat) (v : Int64) (sz : Nat) (hx8 : x < 8) (hy : y < 8) : Met l y_M_offer w_M_offer ({ frames := 0, cells := 0, slots := 0, locals := 0 } : Room) (gPre cls D (tyL kC) [.ref (ad 0), .int (nI x), .int (nI y), .long v] (fl [(wM kC ad sh be ob os oc ar gi pg ag pn an prn tot)]) sz) (gQv cls D (tyL kC) (fl [(wM kC ad sh be ob os oc ar gi pg ag pn an prn tot)]) sz (fl [(wM kC ad (vp_updL sh (x * 8 + y) v) be ob os oc ar gi pg ag pn an prn tot)])) 0 0 (va_A (fl [(wM kC ad sh be ob os oc ar gi pg ag pn an prn tot)]) sz) := by
  refine Met.ofW (cc := b_M_offer) (maxL := 5) (ret := none) (by decide) rfl ?_
  intro p e s m args below meth c s₁ B hml hv
  obtain ⟨rfl, hsz, hP, hK, hD0⟩ := hv
  have hx := B.exec
  have hb := B.bytes
  have hr := B.returns
  have hts := atoms_spec (ws := w_M_offer) B.pre
  have hown : s.vm.findClass R_M = some m.cls := findClass_of_methodNamed B.named
  have hlocks := B.notSynchronized
  subst hsz
  obtain ⟨A, hAe⟩ : ∃ A : Nat → Prop, A = va_A (fl [(wM kC ad sh be ob os oc ar gi pg ag pn an prn tot)]) s.heap.size := ⟨_, rfl⟩
  have hD : va_D A (fl [(wM kC ad sh be ob os oc ar gi pg ag pn an prn tot)]) := by rw [hAe]; exact hD0.self
  have hA : ∀ q : Nat, s.heap.size ≤ q → A q := fun q h => by rw [hAe]; exact Or.inr h
  have hS : va_S A s.heap s.heap [] := va_S.rf
  have hl := lv_entry ([.ref (ad 0), .int (nI x), .int (nI y), .long v]) (n := 5) (Nat.le_of_ble_eq_true rfl)
  rw [lg_entry_eq]
  generalize (lg_sl ([.ref (ad 0), .int (nI x), .int (nI y), .long v]) ++ List.replicate (5 - (lg_sl ([.ref (ad 0), .int (nI x), .int (nI y), .long v])).length) Slot.unset).toArray = ls at hl ⊢
  have hl : lv_has ls 5 [(0, .ref (ad 0)), (1, .int (nI x)), (2, .int (nI y)), (3, .long v)] := hl
  refine lv_aload_n hx hb d_M_offer_0 rfl (lv_at hl 0 rfl) ?_
  refine fv_get (ci := 3) (v := .ref (ad 1)) (C := R_M) (T := F_M) (N := 13) hx hb hts (by decide +kernel) hown hK hP 0 0 rfl rfl rfl 0 (by decide) (hts (.fieldLink R_M 9 "PartShelves$Matching" "shares" "[J") (by decide +kernel)) (fun _ h9 => h9) rfl d_M_offer_1 ?_
  refine lv_iload_n hx hb d_M_offer_4 rfl (lv_at hl 1 rfl) ?_
  refine lv_bipush (v := nI 8) hx hb d_M_offer_5 (by decide +kernel) ?_
  refine nv_imul hx hb d_M_offer_7 ?_
  refine lv_iload_n hx hb d_M_offer_8 rfl (lv_at hl 2 rfl) ?_
  refine nv_iadd hx hb d_M_offer_9 ?_
  refine lv_lload_n hx hb d_M_offer_10 rfl (lv_at hl 3 rfl) ?_
  refine fa_last hx hb hK hP hD hS 0 1 1 rfl rfl rfl (by omega) (by decide) d_M_offer_11 (fun H locs hP hD hS => ?_)
  have hP : va_P D cls (fl [(wM kC ad (vp_updL sh (x * 8 + y) v) be ob os oc ar gi pg ag pn an prn tot)]) H := hP
  have hD : va_D A (fl [(wM kC ad (vp_updL sh (x * 8 + y) v) be ob os oc ar gi pg ag pn an prn tot)]) := hD
  exact W.vret hx hb hr (fun t ht hW => by subst hAe; exact ⟨⟨(), rfl, trivial, by rw [ht]; exact hP, va_K.moved hW.alike hK, hD⟩, hS.F ht⟩) (by subst hAe; exact hS.2.2) d_M_offer_12

abbrev b_M_partFor : ByteArray := prog_4_method_6_code
def y_M_partFor : MethodName := ⟨"PartShelves$Matching", "partFor", "(I)I"⟩
theorem d_M_partFor_0 : decode b_M_partFor 0 = .ok (.iload_n 1, 1) := by decide +kernel
theorem d_M_partFor_1 : decode b_M_partFor 1 = .ok (.ifCond .lt 20, 3) := by decide +kernel
theorem d_M_partFor_4 : decode b_M_partFor 4 = .ok (.iload_n 1, 1) := by decide +kernel
theorem d_M_partFor_5 : decode b_M_partFor 5 = .ok (.aload_n 0, 1) := by decide +kernel
theorem d_M_partFor_6 : decode b_M_partFor 6 = .ok (.getfield 44, 3) := by decide +kernel
theorem d_M_partFor_9 : decode b_M_partFor 9 = .ok (.if_icmp .ge 12, 3) := by decide +kernel
theorem d_M_partFor_12 : decode b_M_partFor 12 = .ok (.aload_n 0, 1) := by decide +kernel
theorem d_M_partFor_13 : decode b_M_partFor 13 = .ok (.getfield 32, 3) := by decide +kernel
theorem d_M_partFor_16 : decode b_M_partFor 16 = .ok (.iload_n 1, 1) := by decide +kernel
theorem d_M_partFor_17 : decode b_M_partFor 17 = .ok (.iaload, 1) := by decide +kernel
theorem d_M_partFor_18 : decode b_M_partFor 18 = .ok (.goto 4, 3) := by decide +kernel
theorem d_M_partFor_21 : decode b_M_partFor 21 = .ok (.iconst (-1), 1) := by decide +kernel
theorem d_M_partFor_22 : decode b_M_partFor 22 = .ok (.ireturn, 1) := by decide +kernel
def w_M_partFor : List Cond := .code y_M_partFor b_M_partFor 2 (some .int) :: ([.fieldLink "PartShelves$Matching" 44 "PartShelves$Matching" "askCount" "I", .fieldLink "PartShelves$Matching" 32 "PartShelves$Matching" "given" "[I"] ++ u_ws R_M F_M 13)
set_option maxHeartbeats 4000000 in
set_option maxRecDepth 100000 in
theorem c_M_partFor (l : Launch) (D : va_G) (kC : Nat → ClassId) (ad : Nat → Nat) (sh : Nat → Int64) (be : Nat → Int64) (ob : Nat → Int32) (os : Nat → Int64) (oc : Nat) (ar : Nat → Int32) (gi : Nat → Int32) (pg : Nat → Int64) (ag : Nat → Int64) (pn : Nat) (an : Nat) (prn : Nat) (tot : Int64) (x : Int32) (h8 : an ≤ 8) : Met l y_M_partFor w_M_partFor ({ frames := 0, cells := 0, slots := 0, locals := 0 } : Room) (gPr cls D (tyL kC) [.ref (ad 0), .int x] (fl [(wM kC ad sh be ob os oc ar gi pg ag pn an prn tot)])) (vp_Si (fun r => r = atR gi (-1) x an)) 0 0 (fun _ => False) := by
  refine Met.ofW (cc := b_M_partFor) (maxL := 2) (ret := (some .int)) (by decide) rfl ?_
  intro p e s m args below meth c s₁ B hml hv
  obtain ⟨rfl, hP, hK⟩ := hv
  have hx := B.exec
  have hb := B.bytes
  have hr := B.returns
  have hts := atoms_spec (ws := w_M_partFor) B.pre
  have hown : s.vm.findClass R_M = some m.cls := findClass_of_methodNamed B.named
  have hlocks := B.notSynchronized
  have hl := lv_entry ([.ref (ad 0), .int x]) (n := 2) (Nat.le_of_ble_eq_true rfl)
  rw [lg_entry_eq]
  generalize (lg_sl ([.ref (ad 0), .int x]) ++ List.replicate (2 - (lg_sl ([.ref (ad 0), .int x])).length) Slot.unset).toArray = ls at hl ⊢
  have hl : lv_has ls 2 [(0, .ref (ad 0)), (1, .int x)] := hl
  refine lv_iload_n hx hb d_M_partFor_0 rfl (lv_at hl 1 rfl) ?_
  refine lv_if_lt (tgt := 21) hx hb d_M_partFor_1 (by decide) (fun h0 => ?_) (fun h0 => ?_)
  · refine lv_iconst (v := (-1)) hx hb d_M_partFor_21 (by decide) ?_
    exact W.iret (v := (-1)) hx hb hr (fun t ht hW => ⟨_, rfl, (atR_no (by first | exact inR_lt h0 | exact inR_ge (by omega) h1)).symm, ht⟩) t_nil d_M_partFor_22
  · refine lv_iload_n hx hb d_M_partFor_4 rfl (lv_at hl 1 rfl) ?_
    refine lv_aload_n hx hb d_M_partFor_5 rfl (lv_at hl 0 rfl) ?_
    refine fv_get (ci := 3) (v := .int (nI an)) (C := R_M) (T := F_M) (N := 13) hx hb hts (by decide +kernel) hown hK hP 0 0 rfl rfl rfl 10 (by decide) (hts (.fieldLink R_M 44 "PartShelves$Matching" "askCount" "I") (by decide +kernel)) (fun _ h9 => h9) rfl d_M_partFor_6 ?_
    refine lv_icmp_ge (tgt := 21) hx hb d_M_partFor_9 (by decide) (fun h1 => ?_) (fun h1 => ?_)
    · refine lv_iconst (v := (-1)) hx hb d_M_partFor_21 (by decide) ?_
      exact W.iret (v := (-1)) hx hb hr (fun t ht hW => ⟨_, rfl, (atR_no (by first | exact inR_lt h0 | exact inR_ge (by omega) h1)).symm, ht⟩) t_nil d_M_partFor_22
    · obtain ⟨j, hj, rfl⟩ := in_of (by omega) h0 h1
      refine lv_aload_n hx hb d_M_partFor_12 rfl (lv_at hl 0 rfl) ?_
      refine fv_get (ci := 3) (v := .ref (ad 6)) (C := R_M) (T := F_M) (N := 13) hx hb hts (by decide +kernel) hown hK hP 0 0 rfl rfl rfl 6 (by decide) (hts (.fieldLink R_M 32 "PartShelves$Matching" "given" "[I") (by decide +kernel)) (fun _ h9 => h9) rfl d_M_partFor_13 ?_
      refine lv_iload_n hx hb d_M_partFor_16 rfl (lv_at hl 1 rfl) ?_
      refine fa_iald hx hb hK hP 0 6 0 rfl rfl rfl (by omega) (by decide) d_M_partFor_17 ?_
      refine lv_goto (tgt := 22) hx hb d_M_partFor_18 (by decide) ?_
      exact W.iret (v := gi j) hx hb hr (fun t ht hW => ⟨_, rfl, (atR_nI hj (by omega)).symm, ht⟩) t_nil d_M_partFor_22

abbrev b_M_gainOfPart : ByteArray := prog_4_method_7_code
def y_M_gainOfPart : MethodName := ⟨"PartShelves$Matching", "gainOfPart", "(I)J"⟩
theorem d_M_gainOfPart_0 : decode b_M_gainOfPart 0 = .ok (.iload_n 1, 1) := by decide +kernel
theorem d_M_gainOfPart_1 : decode b_M_gainOfPart 1 = .ok (.ifCond .lt 20, 3) := by decide +kernel
theorem d_M_gainOfPart_4 : decode b_M_gainOfPart 4 = .ok (.iload_n 1, 1) := by decide +kernel
theorem d_M_gainOfPart_5 : decode b_M_gainOfPart 5 = .ok (.aload_n 0, 1) := by decide +kernel
theorem d_M_gainOfPart_6 : decode b_M_gainOfPart 6 = .ok (.getfield 41, 3) := by decide +kernel
theorem d_M_gainOfPart_9 : decode b_M_gainOfPart 9 = .ok (.if_icmp .ge 12, 3) := by decide +kernel
theorem d_M_gainOfPart_12 : decode b_M_gainOfPart 12 = .ok (.aload_n 0, 1) := by decide +kernel
theorem d_M_gainOfPart_13 : decode b_M_gainOfPart 13 = .ok (.getfield 35, 3) := by decide +kernel
theorem d_M_gainOfPart_16 : decode b_M_gainOfPart 16 = .ok (.iload_n 1, 1) := by decide +kernel
theorem d_M_gainOfPart_17 : decode b_M_gainOfPart 17 = .ok (.laload, 1) := by decide +kernel
theorem d_M_gainOfPart_18 : decode b_M_gainOfPart 18 = .ok (.goto 6, 3) := by decide +kernel
theorem d_M_gainOfPart_21 : decode b_M_gainOfPart 21 = .ok (.ldc2_w 50, 3) := by decide +kernel
theorem d_M_gainOfPart_24 : decode b_M_gainOfPart 24 = .ok (.lreturn, 1) := by decide +kernel
def w_M_gainOfPart : List Cond := .code y_M_gainOfPart b_M_gainOfPart 2 (some .long) :: ([.fieldLink "PartShelves$Matching" 41 "PartShelves$Matching" "partCount" "I", .fieldLink "PartShelves$Matching" 35 "PartShelves$Matching" "partGains" "[J", .constantLong "PartShelves$Matching" 50 (-1)] ++ u_ws R_M F_M 13)
set_option maxHeartbeats 4000000 in
set_option maxRecDepth 100000 in
theorem c_M_gainOfPart (l : Launch) (D : va_G) (kC : Nat → ClassId) (ad : Nat → Nat) (sh : Nat → Int64) (be : Nat → Int64) (ob : Nat → Int32) (os : Nat → Int64) (oc : Nat) (ar : Nat → Int32) (gi : Nat → Int32) (pg : Nat → Int64) (ag : Nat → Int64) (pn : Nat) (an : Nat) (prn : Nat) (tot : Int64) (x : Int32) (h8 : pn ≤ 8) : Met l y_M_gainOfPart w_M_gainOfPart ({ frames := 0, cells := 0, slots := 0, locals := 0 } : Room) (gPr cls D (tyL kC) [.ref (ad 0), .int x] (fl [(wM kC ad sh be ob os oc ar gi pg ag pn an prn tot)])) (vp_Sl (fun r => r = atL pg (-1) x pn)) 0 0 (fun _ => False) := by
  refine Met.ofW (cc := b_M_gainOfPart) (maxL := 2) (ret := (some .long)) (by decide) rfl ?_
  intro p e s m args below meth c s₁ B hml hv
  obtain ⟨rfl, hP, hK⟩ := hv
  have hx := B.exec
  have hb := B.bytes
  have hr := B.returns
  have hts := atoms_spec (ws := w_M_gainOfPart) B.pre
  have hown : s.vm.findClass R_M = some m.cls := findClass_of_methodNamed B.named
  have hlocks := B.notSynchronized
  have hl := lv_entry ([.ref (ad 0), .int x]) (n := 2) (Nat.le_of_ble_eq_true rfl)
  rw [lg_entry_eq]
  generalize (lg_sl ([.ref (ad 0), .int x]) ++ List.replicate (2 - (lg_sl ([.ref (ad 0), .int x])).length) Slot.unset).toArray = ls at hl ⊢
  have hl : lv_has ls 2 [(0, .ref (ad 0)), (1, .int x)] := hl
  refine lv_iload_n hx hb d_M_gainOfPart_0 rfl (lv_at hl 1 rfl) ?_
  refine lv_if_lt (tgt := 21) hx hb d_M_gainOfPart_1 (by decide) (fun h0 => ?_) (fun h0 => ?_)
  · refine lv_ldc2 (v := (-1)) hx hb hown (hts (.constantLong R_M 50 (-1)) (by decide +kernel)) d_M_gainOfPart_21 ?_
    exact W.lret (v := (-1)) hx hb hr (fun t ht hW => ⟨_, rfl, (atL_no (by first | exact inR_lt h0 | exact inR_ge (by omega) h1)).symm, ht⟩) t_nil d_M_gainOfPart_24
  · refine lv_iload_n hx hb d_M_gainOfPart_4 rfl (lv_at hl 1 rfl) ?_
    refine lv_aload_n hx hb d_M_gainOfPart_5 rfl (lv_at hl 0 rfl) ?_
    refine fv_get (ci := 3) (v := .int (nI pn)) (C := R_M) (T := F_M) (N := 13) hx hb hts (by decide +kernel) hown hK hP 0 0 rfl rfl rfl 9 (by decide) (hts (.fieldLink R_M 41 "PartShelves$Matching" "partCount" "I") (by decide +kernel)) (fun _ h9 => h9) rfl d_M_gainOfPart_6 ?_
    refine lv_icmp_ge (tgt := 21) hx hb d_M_gainOfPart_9 (by decide) (fun h1 => ?_) (fun h1 => ?_)
    · refine lv_ldc2 (v := (-1)) hx hb hown (hts (.constantLong R_M 50 (-1)) (by decide +kernel)) d_M_gainOfPart_21 ?_
      exact W.lret (v := (-1)) hx hb hr (fun t ht hW => ⟨_, rfl, (atL_no (by first | exact inR_lt h0 | exact inR_ge (by omega) h1)).symm, ht⟩) t_nil d_M_gainOfPart_24
    · obtain ⟨j, hj, rfl⟩ := in_of (by omega) h0 h1
      refine lv_aload_n hx hb d_M_gainOfPart_12 rfl (lv_at hl 0 rfl) ?_
      refine fv_get (ci := 3) (v := .ref (ad 7)) (C := R_M) (T := F_M) (N := 13) hx hb hts (by decide +kernel) hown hK hP 0 0 rfl rfl rfl 7 (by decide) (hts (.fieldLink R_M 35 "PartShelves$Matching" "partGains" "[J") (by decide +kernel)) (fun _ h9 => h9) rfl d_M_gainOfPart_13 ?_
      refine lv_iload_n hx hb d_M_gainOfPart_16 rfl (lv_at hl 1 rfl) ?_
      refine fa_lald hx hb hK hP 0 7 1 rfl rfl rfl (by omega) (by decide) d_M_gainOfPart_17 ?_
      refine lv_goto (tgt := 24) hx hb d_M_gainOfPart_18 (by decide) ?_
      exact W.lret (v := pg j) hx hb hr (fun t ht hW => ⟨_, rfl, (atL_nI hj (by omega)).symm, ht⟩) t_nil d_M_gainOfPart_24

abbrev b_M_gainOfAsk : ByteArray := prog_4_method_8_code
def y_M_gainOfAsk : MethodName := ⟨"PartShelves$Matching", "gainOfAsk", "(I)J"⟩
theorem d_M_gainOfAsk_0 : decode b_M_gainOfAsk 0 = .ok (.iload_n 1, 1) := by decide +kernel
theorem d_M_gainOfAsk_1 : decode b_M_gainOfAsk 1 = .ok (.ifCond .lt 20, 3) := by decide +kernel
theorem d_M_gainOfAsk_4 : decode b_M_gainOfAsk 4 = .ok (.iload_n 1, 1) := by decide +kernel
theorem d_M_gainOfAsk_5 : decode b_M_gainOfAsk 5 = .ok (.aload_n 0, 1) := by decide +kernel
theorem d_M_gainOfAsk_6 : decode b_M_gainOfAsk 6 = .ok (.getfield 44, 3) := by decide +kernel
theorem d_M_gainOfAsk_9 : decode b_M_gainOfAsk 9 = .ok (.if_icmp .ge 12, 3) := by decide +kernel
theorem d_M_gainOfAsk_12 : decode b_M_gainOfAsk 12 = .ok (.aload_n 0, 1) := by decide +kernel
theorem d_M_gainOfAsk_13 : decode b_M_gainOfAsk 13 = .ok (.getfield 38, 3) := by decide +kernel
theorem d_M_gainOfAsk_16 : decode b_M_gainOfAsk 16 = .ok (.iload_n 1, 1) := by decide +kernel
theorem d_M_gainOfAsk_17 : decode b_M_gainOfAsk 17 = .ok (.laload, 1) := by decide +kernel
theorem d_M_gainOfAsk_18 : decode b_M_gainOfAsk 18 = .ok (.goto 6, 3) := by decide +kernel
theorem d_M_gainOfAsk_21 : decode b_M_gainOfAsk 21 = .ok (.ldc2_w 50, 3) := by decide +kernel
theorem d_M_gainOfAsk_24 : decode b_M_gainOfAsk 24 = .ok (.lreturn, 1) := by decide +kernel
def w_M_gainOfAsk : List Cond := .code y_M_gainOfAsk b_M_gainOfAsk 2 (some .long) :: ([.fieldLink "PartShelves$Matching" 44 "PartShelves$Matching" "askCount" "I", .fieldLink "PartShelves$Matching" 38 "PartShelves$Matching" "askGains" "[J", .constantLong "PartShelves$Matching" 50 (-1)] ++ u_ws R_M F_M 13)
set_option maxHeartbeats 4000000 in
set_option maxRecDepth 100000 in
theorem c_M_gainOfAsk (l : Launch) (D : va_G) (kC : Nat → ClassId) (ad : Nat → Nat) (sh : Nat → Int64) (be : Nat → Int64) (ob : Nat → Int32) (os : Nat → Int64) (oc : Nat) (ar : Nat → Int32) (gi : Nat → Int32) (pg : Nat → Int64) (ag : Nat → Int64) (pn : Nat) (an : Nat) (prn : Nat) (tot : Int64) (x : Int32) (h8 : an ≤ 8) : Met l y_M_gainOfAsk w_M_gainOfAsk ({ frames := 0, cells := 0, slots := 0, locals := 0 } : Room) (gPr cls D (tyL kC) [.ref (ad 0), .int x] (fl [(wM kC ad sh be ob os oc ar gi pg ag pn an prn tot)])) (vp_Sl (fun r => r = atL ag (-1) x an)) 0 0 (fun _ => False) := by
  refine Met.ofW (cc := b_M_gainOfAsk) (maxL := 2) (ret := (some .long)) (by decide) rfl ?_
  intro p e s m args below meth c s₁ B hml hv
  obtain ⟨rfl, hP, hK⟩ := hv
  have hx := B.exec
  have hb := B.bytes
  have hr := B.returns
  have hts := atoms_spec (ws := w_M_gainOfAsk) B.pre
  have hown : s.vm.findClass R_M = some m.cls := findClass_of_methodNamed B.named
  have hlocks := B.notSynchronized
  have hl := lv_entry ([.ref (ad 0), .int x]) (n := 2) (Nat.le_of_ble_eq_true rfl)
  rw [lg_entry_eq]
  generalize (lg_sl ([.ref (ad 0), .int x]) ++ List.replicate (2 - (lg_sl ([.ref (ad 0), .int x])).length) Slot.unset).toArray = ls at hl ⊢
  have hl : lv_has ls 2 [(0, .ref (ad 0)), (1, .int x)] := hl
  refine lv_iload_n hx hb d_M_gainOfAsk_0 rfl (lv_at hl 1 rfl) ?_
  refine lv_if_lt (tgt := 21) hx hb d_M_gainOfAsk_1 (by decide) (fun h0 => ?_) (fun h0 => ?_)
  · refine lv_ldc2 (v := (-1)) hx hb hown (hts (.constantLong R_M 50 (-1)) (by decide +kernel)) d_M_gainOfAsk_21 ?_
    exact W.lret (v := (-1)) hx hb hr (fun t ht hW => ⟨_, rfl, (atL_no (by first | exact inR_lt h0 | exact inR_ge (by omega) h1)).symm, ht⟩) t_nil d_M_gainOfAsk_24
  · refine lv_iload_n hx hb d_M_gainOfAsk_4 rfl (lv_at hl 1 rfl) ?_
    refine lv_aload_n hx hb d_M_gainOfAsk_5 rfl (lv_at hl 0 rfl) ?_
    refine fv_get (ci := 3) (v := .int (nI an)) (C := R_M) (T := F_M) (N := 13) hx hb hts (by decide +kernel) hown hK hP 0 0 rfl rfl rfl 10 (by decide) (hts (.fieldLink R_M 44 "PartShelves$Matching" "askCount" "I") (by decide +kernel)) (fun _ h9 => h9) rfl d_M_gainOfAsk_6 ?_
    refine lv_icmp_ge (tgt := 21) hx hb d_M_gainOfAsk_9 (by decide) (fun h1 => ?_) (fun h1 => ?_)
    · refine lv_ldc2 (v := (-1)) hx hb hown (hts (.constantLong R_M 50 (-1)) (by decide +kernel)) d_M_gainOfAsk_21 ?_
      exact W.lret (v := (-1)) hx hb hr (fun t ht hW => ⟨_, rfl, (atL_no (by first | exact inR_lt h0 | exact inR_ge (by omega) h1)).symm, ht⟩) t_nil d_M_gainOfAsk_24
    · obtain ⟨j, hj, rfl⟩ := in_of (by omega) h0 h1
      refine lv_aload_n hx hb d_M_gainOfAsk_12 rfl (lv_at hl 0 rfl) ?_
      refine fv_get (ci := 3) (v := .ref (ad 8)) (C := R_M) (T := F_M) (N := 13) hx hb hts (by decide +kernel) hown hK hP 0 0 rfl rfl rfl 8 (by decide) (hts (.fieldLink R_M 38 "PartShelves$Matching" "askGains" "[J") (by decide +kernel)) (fun _ h9 => h9) rfl d_M_gainOfAsk_13 ?_
      refine lv_iload_n hx hb d_M_gainOfAsk_16 rfl (lv_at hl 1 rfl) ?_
      refine fa_lald hx hb hK hP 0 8 1 rfl rfl rfl (by omega) (by decide) d_M_gainOfAsk_17 ?_
      refine lv_goto (tgt := 24) hx hb d_M_gainOfAsk_18 (by decide) ?_
      exact W.lret (v := ag j) hx hb hr (fun t ht hW => ⟨_, rfl, (atL_nI hj (by omega)).symm, ht⟩) t_nil d_M_gainOfAsk_24

abbrev b_M_collectOptions : ByteArray := prog_4_method_11_code
def y_M_collectOptions : MethodName := ⟨"PartShelves$Matching", "collectOptions", "(III)V"⟩
theorem d_M_collectOptions_0 : decode b_M_collectOptions 0 = .ok (.aload_n 0, 1) := by decide +kernel
theorem d_M_collectOptions_1 : decode b_M_collectOptions 1 = .ok (.iconst 0, 1) := by decide +kernel
theorem d_M_collectOptions_2 : decode b_M_collectOptions 2 = .ok (.putfield 25, 3) := by decide +kernel
theorem d_M_collectOptions_5 : decode b_M_collectOptions 5 = .ok (.iconst 0, 1) := by decide +kernel
theorem d_M_collectOptions_6 : decode b_M_collectOptions 6 = .ok (.istore 4, 2) := by decide +kernel
theorem d_M_collectOptions_8 : decode b_M_collectOptions 8 = .ok (.iload 4, 2) := by decide +kernel
theorem d_M_collectOptions_10 : decode b_M_collectOptions 10 = .ok (.iload_n 2, 1) := by decide +kernel
theorem d_M_collectOptions_11 : decode b_M_collectOptions 11 = .ok (.if_icmp .ge 65, 3) := by decide +kernel
theorem d_M_collectOptions_14 : decode b_M_collectOptions 14 = .ok (.aload_n 0, 1) := by decide +kernel
theorem d_M_collectOptions_15 : decode b_M_collectOptions 15 = .ok (.getfield 9, 3) := by decide +kernel
theorem d_M_collectOptions_18 : decode b_M_collectOptions 18 = .ok (.iload_n 1, 1) := by decide +kernel
theorem d_M_collectOptions_19 : decode b_M_collectOptions 19 = .ok (.iload 4, 2) := by decide +kernel
theorem d_M_collectOptions_21 : decode b_M_collectOptions 21 = .ok (.iload_n 3, 1) := by decide +kernel
theorem d_M_collectOptions_22 : decode b_M_collectOptions 22 = .ok (.imul, 1) := by decide +kernel
theorem d_M_collectOptions_23 : decode b_M_collectOptions 23 = .ok (.iadd, 1) := by decide +kernel
theorem d_M_collectOptions_24 : decode b_M_collectOptions 24 = .ok (.laload, 1) := by decide +kernel
theorem d_M_collectOptions_25 : decode b_M_collectOptions 25 = .ok (.lstore 5, 2) := by decide +kernel
theorem d_M_collectOptions_27 : decode b_M_collectOptions 27 = .ok (.lload 5, 2) := by decide +kernel
theorem d_M_collectOptions_29 : decode b_M_collectOptions 29 = .ok (.ldc2_w 50, 3) := by decide +kernel
theorem d_M_collectOptions_32 : decode b_M_collectOptions 32 = .ok (.lcmp, 1) := by decide +kernel
theorem d_M_collectOptions_33 : decode b_M_collectOptions 33 = .ok (.ifCond .eq 37, 3) := by decide +kernel
theorem d_M_collectOptions_36 : decode b_M_collectOptions 36 = .ok (.aload_n 0, 1) := by decide +kernel
theorem d_M_collectOptions_37 : decode b_M_collectOptions 37 = .ok (.getfield 18, 3) := by decide +kernel
theorem d_M_collectOptions_40 : decode b_M_collectOptions 40 = .ok (.aload_n 0, 1) := by decide +kernel
theorem d_M_collectOptions_41 : decode b_M_collectOptions 41 = .ok (.getfield 25, 3) := by decide +kernel
theorem d_M_collectOptions_44 : decode b_M_collectOptions 44 = .ok (.iconst 1, 1) := by decide +kernel
theorem d_M_collectOptions_45 : decode b_M_collectOptions 45 = .ok (.iload 4, 2) := by decide +kernel
theorem d_M_collectOptions_47 : decode b_M_collectOptions 47 = .ok (.ishl, 1) := by decide +kernel
theorem d_M_collectOptions_48 : decode b_M_collectOptions 48 = .ok (.iastore, 1) := by decide +kernel
theorem d_M_collectOptions_49 : decode b_M_collectOptions 49 = .ok (.aload_n 0, 1) := by decide +kernel
theorem d_M_collectOptions_50 : decode b_M_collectOptions 50 = .ok (.getfield 22, 3) := by decide +kernel
theorem d_M_collectOptions_53 : decode b_M_collectOptions 53 = .ok (.aload_n 0, 1) := by decide +kernel
theorem d_M_collectOptions_54 : decode b_M_collectOptions 54 = .ok (.getfield 25, 3) := by decide +kernel
theorem d_M_collectOptions_57 : decode b_M_collectOptions 57 = .ok (.lload 5, 2) := by decide +kernel
theorem d_M_collectOptions_59 : decode b_M_collectOptions 59 = .ok (.lastore, 1) := by decide +kernel
theorem d_M_collectOptions_60 : decode b_M_collectOptions 60 = .ok (.aload_n 0, 1) := by decide +kernel
theorem d_M_collectOptions_61 : decode b_M_collectOptions 61 = .ok (.dup, 1) := by decide +kernel
theorem d_M_collectOptions_62 : decode b_M_collectOptions 62 = .ok (.getfield 25, 3) := by decide +kernel
theorem d_M_collectOptions_65 : decode b_M_collectOptions 65 = .ok (.iconst 1, 1) := by decide +kernel
theorem d_M_collectOptions_66 : decode b_M_collectOptions 66 = .ok (.iadd, 1) := by decide +kernel
theorem d_M_collectOptions_67 : decode b_M_collectOptions 67 = .ok (.putfield 25, 3) := by decide +kernel
theorem d_M_collectOptions_70 : decode b_M_collectOptions 70 = .ok (.iinc 4 1, 3) := by decide +kernel
theorem d_M_collectOptions_73 : decode b_M_collectOptions 73 = .ok (.goto (-65), 3) := by decide +kernel
theorem d_M_collectOptions_76 : decode b_M_collectOptions 76 = .ok (.return_, 1) := by decide +kernel
def w_M_collectOptions : List Cond := .code y_M_collectOptions b_M_collectOptions 7 none :: ([.fieldLink "PartShelves$Matching" 25 "PartShelves$Matching" "optionCount" "I", .fieldLink "PartShelves$Matching" 9 "PartShelves$Matching" "shares" "[J", .constantLong "PartShelves$Matching" 50 (-1), .fieldLink "PartShelves$Matching" 18 "PartShelves$Matching" "optionBits" "[I", .fieldLink "PartShelves$Matching" 22 "PartShelves$Matching" "optionShares" "[J"] ++ u_ws R_M F_M 13)
set_option maxHeartbeats 4000000 in
set_option maxRecDepth 100000 in
theorem c_M_coll (l : Launch) (D : va_G) (kC : Nat → ClassId) (ad : Nat → Nat) (sh : Nat → Int64) (be : Nat → Int64) (ob : Nat → Int32) (os : Nat → Int64) (oc : Nat) (ar : Nat → Int32) (gi : Nat → Int32) (pg : Nat → Int64) (ag : Nat → Int64) (pn : Nat) (an : Nat) (prn : Nat) (tot : Int64) (f : Nat) (M : Nat) (st : Nat) (sz : Nat) (eM : M ≤ 8) (hix : ∀ i, i < M → f + i * st < 64) : Met l y_M_collectOptions w_M_collectOptions ({ frames := 0, cells := 0, slots := 0, locals := 0 } : Room) (gPre cls D (tyL kC) [.ref (ad 0), .int (nI f), .int (nI M), .int (nI st)] (fl [(wM kC ad sh be ob os oc ar gi pg ag pn an prn tot)]) sz) (gQv cls D (tyL kC) (fl [(wM kC ad sh be ob os oc ar gi pg ag pn an prn tot)]) sz (fl [(wM kC ad sh be (coB sh f st ob M) (coS sh f st os M) (coC sh f st M) ar gi pg ag pn an prn tot)])) 0 0 (va_A (fl [(wM kC ad sh be ob os oc ar gi pg ag pn an prn tot)]) sz) := by
  refine Met.ofW (cc := b_M_collectOptions) (maxL := 7) (ret := none) (by decide) rfl ?_
  intro p e s m args below meth c s₁ B hml hv
  obtain ⟨rfl, hsz, hP, hK, hD0⟩ := hv
  have hx := B.exec
  have hb := B.bytes
  have hr := B.returns
  have hts := atoms_spec (ws := w_M_collectOptions) B.pre
  have hown : s.vm.findClass R_M = some m.cls := findClass_of_methodNamed B.named
  have hlocks := B.notSynchronized
  subst hsz
  obtain ⟨A, hAe⟩ : ∃ A : Nat → Prop, A = va_A (fl [(wM kC ad sh be ob os oc ar gi pg ag pn an prn tot)]) s.heap.size := ⟨_, rfl⟩
  have hD : va_D A (fl [(wM kC ad sh be ob os oc ar gi pg ag pn an prn tot)]) := by rw [hAe]; exact hD0.self
  have hA : ∀ q : Nat, s.heap.size ≤ q → A q := fun q h => by rw [hAe]; exact Or.inr h
  have hS : va_S A s.heap s.heap [] := va_S.rf
  have hl := lv_entry ([.ref (ad 0), .int (nI f), .int (nI M), .int (nI st)]) (n := 7) (Nat.le_of_ble_eq_true rfl)
  rw [lg_entry_eq]
  generalize (lg_sl ([.ref (ad 0), .int (nI f), .int (nI M), .int (nI st)]) ++ List.replicate (7 - (lg_sl ([.ref (ad 0), .int (nI f), .int (nI M), .int (nI st)])).length) Slot.unset).toArray = ls at hl ⊢
  have hl : lv_has ls 7 [(0, .ref (ad 0)), (1, .int (nI f)), (2, .int (nI M)), (3, .int (nI st))] := hl
  refine lv_aload_n hx hb d_M_collectOptions_0 rfl (lv_at hl 0 rfl) ?_
  refine lv_iconst (v := nI 0) hx hb d_M_collectOptions_1 (by decide) ?_
  refine fv_put (ci := 3) (v := .int (nI 0)) (ty := (.int)) (C := R_M) (T := F_M) (N := 13) hx hb hts (by decide +kernel) t_M t_M_ok n_M hown hK hP hD hS 0 0 rfl rfl rfl 4 (by decide) (hts (.fieldLink R_M 25 "PartShelves$Matching" "optionCount" "I") (by decide +kernel)) (fun _ h9 => h9) rfl (by decide +kernel) (rfl) (rfl) (Nat.le_of_ble_eq_true rfl) d_M_collectOptions_2 (fun H locs hP hD hS => ?_)
  have hP : va_P D cls (fl [(wM kC ad sh be ob os 0 ar gi pg ag pn an prn tot)]) H := hP
  have hD : va_D A (fl [(wM kC ad sh be ob os 0 ar gi pg ag pn an prn tot)]) := hD
  refine lv_iconst (v := nI 0) hx hb d_M_collectOptions_5 (by decide) ?_
  refine lv_istore (lv' := [(4, .int (nI 0)), (0, .ref (ad 0)), (1, .int (nI f)), (2, .int (nI M)), (3, .int (nI st))]) hx hb d_M_collectOptions_6 hl (by decide) rfl (fun ls hl => ?_)
  have L8 : ∀ (n8 : Nat) (i : Nat), M - i < n8 → i ≤ M → ∀ (H : Heap) (locs : List Loc), va_P D cls (fl [(wM kC ad sh be (coB sh f st ob i) (coS sh f st os i) (coC sh f st i) ar gi pg ag pn an prn tot)]) H → va_D A (fl [(wM kC ad sh be (coB sh f st ob i) (coS sh f st os i) (coC sh f st i) ar gi pg ag pn an prn tot)]) → va_S A s.heap H locs → ∀ (ls : Array Slot), lv_has ls 7 [(0, .ref (ad 0)), (1, .int (nI f)), (2, .int (nI M)), (3, .int (nI st)), (4, .int (nI i))] → W p l e (headSpec w_M_collectOptions ({ frames := 0, cells := 0, slots := 0, locals := 0 } : Room)).room s m ([.ref (ad 0), .int (nI f), .int (nI M), .int (nI st)] : List Value).toArray below meth c H locs 0 0 (MQ below (gQv cls D (tyL kC) (fl [(wM kC ad sh be ob os oc ar gi pg ag pn an prn tot)]) s.heap.size (fl [(wM kC ad sh be (coB sh f st ob M) (coS sh f st os M) (coC sh f st M) ar gi pg ag pn an prn tot)])) ([.ref (ad 0), .int (nI f), .int (nI M), .int (nI st)] : List Value).toArray s 0 0 (va_A (fl [(wM kC ad sh be ob os oc ar gi pg ag pn an prn tot)]) s.heap.size)) (F0 m 8 ls []) := by
    intro n8
    induction n8 with
    | zero =>
      intro i hm
      exact absurd hm (Nat.not_lt_zero _)
    | succ n8 ih8 =>
      intro i hm hiM H locs hP hD hS ls hl
      refine lv_iload hx hb d_M_collectOptions_8 (lv_at hl 4 rfl) ?_
      refine lv_iload_n hx hb d_M_collectOptions_10 rfl (lv_at hl 2 rfl) ?_
      refine nv_icmp_ge (tgt := 76) hx hb d_M_collectOptions_11 (by decide) (by omega) (by omega) (fun hi => ?_) (fun hi => ?_)
      · obtain rfl : M = i := by omega
        exact W.vret hx hb hr (fun t ht hW => by subst hAe; exact ⟨⟨(), rfl, trivial, by rw [ht]; exact hP, va_K.moved hW.alike hK, hD⟩, hS.F ht⟩) (by subst hAe; exact hS.2.2) d_M_collectOptions_76
      · have hcl := coC_le sh f st i
        refine lv_aload_n hx hb d_M_collectOptions_14 rfl (lv_at hl 0 rfl) ?_
        refine fv_get (ci := 3) (v := .ref (ad 1)) (C := R_M) (T := F_M) (N := 13) hx hb hts (by decide +kernel) hown hK hP 0 0 rfl rfl rfl 0 (by decide) (hts (.fieldLink R_M 9 "PartShelves$Matching" "shares" "[J") (by decide +kernel)) (fun _ h9 => h9) rfl d_M_collectOptions_15 ?_
        refine lv_iload_n hx hb d_M_collectOptions_18 rfl (lv_at hl 1 rfl) ?_
        refine lv_iload hx hb d_M_collectOptions_19 (lv_at hl 4 rfl) ?_
        refine lv_iload_n hx hb d_M_collectOptions_21 rfl (lv_at hl 3 rfl) ?_
        refine nv_imul hx hb d_M_collectOptions_22 ?_
        refine nv_iadd hx hb d_M_collectOptions_23 ?_
        refine fa_lald hx hb hK hP 0 1 1 rfl rfl rfl (hix i hi) (by decide) d_M_collectOptions_24 ?_
        refine lv_lstore (lv' := [(5, .long (sh (f + i * st))), (0, .ref (ad 0)), (1, .int (nI f)), (2, .int (nI M)), (3, .int (nI st)), (4, .int (nI i))]) hx hb d_M_collectOptions_25 hl (by decide) rfl (fun ls hl => ?_)
        refine lv_lload hx hb d_M_collectOptions_27 (lv_at hl 0 rfl) ?_
        refine lv_ldc2 (v := (-1)) hx hb hown (hts (.constantLong R_M 50 (-1)) (by decide +kernel)) d_M_collectOptions_29 ?_
        refine lc_eq (tgt := 70) hx hb d_M_collectOptions_32 d_M_collectOptions_33 (by decide) (fun hv => ?_) (fun hv => ?_)
        · refine lv_iinc (v := nI (i + 1)) (lv' := [(4, .int (nI (i + 1))), (5, .long (sh (f + i * st))), (0, .ref (ad 0)), (1, .int (nI f)), (2, .int (nI M)), (3, .int (nI st))]) hx hb d_M_collectOptions_70 hl (k := 5) rfl (nI_1 i) (by decide) rfl (fun ls hl => ?_)
          refine lv_goto (tgt := 8) hx hb d_M_collectOptions_73 (by decide) ?_
          have ew1 : (coB sh f st ob i) = (coB sh f st ob (i + 1)) := (if_pos hv).symm
          have hP : va_P D cls (fl [(wM kC ad sh be (coB sh f st ob (i + 1)) (coS sh f st os i) (coC sh f st i) ar gi pg ag pn an prn tot)]) H := by rw [← ew1]; exact hP
          have hD : va_D A (fl [(wM kC ad sh be (coB sh f st ob (i + 1)) (coS sh f st os i) (coC sh f st i) ar gi pg ag pn an prn tot)]) := by rw [← ew1]; exact hD
          have ew2 : (coS sh f st os i) = (coS sh f st os (i + 1)) := (if_pos hv).symm
          have hP : va_P D cls (fl [(wM kC ad sh be (coB sh f st ob (i + 1)) (coS sh f st os (i + 1)) (coC sh f st i) ar gi pg ag pn an prn tot)]) H := by rw [← ew2]; exact hP
          have hD : va_D A (fl [(wM kC ad sh be (coB sh f st ob (i + 1)) (coS sh f st os (i + 1)) (coC sh f st i) ar gi pg ag pn an prn tot)]) := by rw [← ew2]; exact hD
          have ew3 : (coC sh f st i) = (coC sh f st (i + 1)) := (if_pos hv).symm
          have hP : va_P D cls (fl [(wM kC ad sh be (coB sh f st ob (i + 1)) (coS sh f st os (i + 1)) (coC sh f st (i + 1)) ar gi pg ag pn an prn tot)]) H := by rw [← ew3]; exact hP
          have hD : va_D A (fl [(wM kC ad sh be (coB sh f st ob (i + 1)) (coS sh f st os (i + 1)) (coC sh f st (i + 1)) ar gi pg ag pn an prn tot)]) := by rw [← ew3]; exact hD
          exact ih8 (i + 1) (by omega) (hi) _ _ hP hD hS ls (lv_sub hl [2, 3, 4, 5, 0] rfl)
        · refine lv_aload_n hx hb d_M_collectOptions_36 rfl (lv_at hl 1 rfl) ?_
          refine fv_get (ci := 3) (v := .ref (ad 3)) (C := R_M) (T := F_M) (N := 13) hx hb hts (by decide +kernel) hown hK hP 0 0 rfl rfl rfl 2 (by decide) (hts (.fieldLink R_M 18 "PartShelves$Matching" "optionBits" "[I") (by decide +kernel)) (fun _ h9 => h9) rfl d_M_collectOptions_37 ?_
          refine lv_aload_n hx hb d_M_collectOptions_40 rfl (lv_at hl 1 rfl) ?_
          refine fv_get (ci := 3) (v := .int (nI (coC sh f st i))) (C := R_M) (T := F_M) (N := 13) hx hb hts (by decide +kernel) hown hK hP 0 0 rfl rfl rfl 4 (by decide) (hts (.fieldLink R_M 25 "PartShelves$Matching" "optionCount" "I") (by decide +kernel)) (fun _ h9 => h9) rfl d_M_collectOptions_41 ?_
          refine lv_iconst (v := nI 1) hx hb d_M_collectOptions_44 (by decide) ?_
          refine lv_iload hx hb d_M_collectOptions_45 (lv_at hl 5 rfl) ?_
          refine lv_ishl hx hb d_M_collectOptions_47 ?_
          refine nv_topi (y := nI (2 ^ i)) (shl1 i (by omega)) ?_
          refine fa_iast hx hb hK hP hD hS 0 3 0 rfl rfl rfl (by omega) (by decide) d_M_collectOptions_48 (fun H locs hP hD hS => ?_)
          have hP : va_P D cls (fl [(wM kC ad sh be (upd (coB sh f st ob i) (coC sh f st i) (nI (2 ^ i))) (coS sh f st os i) (coC sh f st i) ar gi pg ag pn an prn tot)]) H := hP
          have hD : va_D A (fl [(wM kC ad sh be (upd (coB sh f st ob i) (coC sh f st i) (nI (2 ^ i))) (coS sh f st os i) (coC sh f st i) ar gi pg ag pn an prn tot)]) := hD
          refine lv_aload_n hx hb d_M_collectOptions_49 rfl (lv_at hl 1 rfl) ?_
          refine fv_get (ci := 3) (v := .ref (ad 4)) (C := R_M) (T := F_M) (N := 13) hx hb hts (by decide +kernel) hown hK hP 0 0 rfl rfl rfl 3 (by decide) (hts (.fieldLink R_M 22 "PartShelves$Matching" "optionShares" "[J") (by decide +kernel)) (fun _ h9 => h9) rfl d_M_collectOptions_50 ?_
          refine lv_aload_n hx hb d_M_collectOptions_53 rfl (lv_at hl 1 rfl) ?_
          refine fv_get (ci := 3) (v := .int (nI (coC sh f st i))) (C := R_M) (T := F_M) (N := 13) hx hb hts (by decide +kernel) hown hK hP 0 0 rfl rfl rfl 4 (by decide) (hts (.fieldLink R_M 25 "PartShelves$Matching" "optionCount" "I") (by decide +kernel)) (fun _ h9 => h9) rfl d_M_collectOptions_54 ?_
          refine lv_lload hx hb d_M_collectOptions_57 (lv_at hl 0 rfl) ?_
          refine fa_last hx hb hK hP hD hS 0 4 1 rfl rfl rfl (by omega) (by decide) d_M_collectOptions_59 (fun H locs hP hD hS => ?_)
          have hP : va_P D cls (fl [(wM kC ad sh be (upd (coB sh f st ob i) (coC sh f st i) (nI (2 ^ i))) (vp_updL (coS sh f st os i) (coC sh f st i) (sh (f + i * st))) (coC sh f st i) ar gi pg ag pn an prn tot)]) H := hP
          have hD : va_D A (fl [(wM kC ad sh be (upd (coB sh f st ob i) (coC sh f st i) (nI (2 ^ i))) (vp_updL (coS sh f st os i) (coC sh f st i) (sh (f + i * st))) (coC sh f st i) ar gi pg ag pn an prn tot)]) := hD
          refine lv_aload_n hx hb d_M_collectOptions_60 rfl (lv_at hl 1 rfl) ?_
          refine lv_dup hx hb d_M_collectOptions_61 rfl ?_
          refine fv_get (ci := 3) (v := .int (nI (coC sh f st i))) (C := R_M) (T := F_M) (N := 13) hx hb hts (by decide +kernel) hown hK hP 0 0 rfl rfl rfl 4 (by decide) (hts (.fieldLink R_M 25 "PartShelves$Matching" "optionCount" "I") (by decide +kernel)) (fun _ h9 => h9) rfl d_M_collectOptions_62 ?_
          refine lv_iconst (v := nI 1) hx hb d_M_collectOptions_65 (by decide) ?_
          refine nv_iadd hx hb d_M_collectOptions_66 ?_
          refine fv_put (ci := 3) (v := .int (nI ((coC sh f st i) + 1))) (ty := (.int)) (C := R_M) (T := F_M) (N := 13) hx hb hts (by decide +kernel) t_M t_M_ok n_M hown hK hP hD hS 0 0 rfl rfl rfl 4 (by decide) (hts (.fieldLink R_M 25 "PartShelves$Matching" "optionCount" "I") (by decide +kernel)) (fun _ h9 => h9) rfl (by decide +kernel) (rfl) (rfl) (Nat.le_of_ble_eq_true rfl) d_M_collectOptions_67 (fun H locs hP hD hS => ?_)
          have hP : va_P D cls (fl [(wM kC ad sh be (upd (coB sh f st ob i) (coC sh f st i) (nI (2 ^ i))) (vp_updL (coS sh f st os i) (coC sh f st i) (sh (f + i * st))) ((coC sh f st i) + 1) ar gi pg ag pn an prn tot)]) H := hP
          have hD : va_D A (fl [(wM kC ad sh be (upd (coB sh f st ob i) (coC sh f st i) (nI (2 ^ i))) (vp_updL (coS sh f st os i) (coC sh f st i) (sh (f + i * st))) ((coC sh f st i) + 1) ar gi pg ag pn an prn tot)]) := hD
          refine lv_iinc (v := nI (i + 1)) (lv' := [(4, .int (nI (i + 1))), (5, .long (sh (f + i * st))), (0, .ref (ad 0)), (1, .int (nI f)), (2, .int (nI M)), (3, .int (nI st))]) hx hb d_M_collectOptions_70 hl (k := 5) rfl (nI_1 i) (by decide) rfl (fun ls hl => ?_)
          refine lv_goto (tgt := 8) hx hb d_M_collectOptions_73 (by decide) ?_
          have ew4 : (upd (coB sh f st ob i) (coC sh f st i) (nI (2 ^ i))) = (coB sh f st ob (i + 1)) := (if_neg hv).symm
          have hP : va_P D cls (fl [(wM kC ad sh be (coB sh f st ob (i + 1)) (vp_updL (coS sh f st os i) (coC sh f st i) (sh (f + i * st))) ((coC sh f st i) + 1) ar gi pg ag pn an prn tot)]) H := by rw [← ew4]; exact hP
          have hD : va_D A (fl [(wM kC ad sh be (coB sh f st ob (i + 1)) (vp_updL (coS sh f st os i) (coC sh f st i) (sh (f + i * st))) ((coC sh f st i) + 1) ar gi pg ag pn an prn tot)]) := by rw [← ew4]; exact hD
          have ew5 : (vp_updL (coS sh f st os i) (coC sh f st i) (sh (f + i * st))) = (coS sh f st os (i + 1)) := (if_neg hv).symm
          have hP : va_P D cls (fl [(wM kC ad sh be (coB sh f st ob (i + 1)) (coS sh f st os (i + 1)) ((coC sh f st i) + 1) ar gi pg ag pn an prn tot)]) H := by rw [← ew5]; exact hP
          have hD : va_D A (fl [(wM kC ad sh be (coB sh f st ob (i + 1)) (coS sh f st os (i + 1)) ((coC sh f st i) + 1) ar gi pg ag pn an prn tot)]) := by rw [← ew5]; exact hD
          have ew6 : ((coC sh f st i) + 1) = (coC sh f st (i + 1)) := (if_neg hv).symm
          have hP : va_P D cls (fl [(wM kC ad sh be (coB sh f st ob (i + 1)) (coS sh f st os (i + 1)) (coC sh f st (i + 1)) ar gi pg ag pn an prn tot)]) H := by rw [← ew6]; exact hP
          have hD : va_D A (fl [(wM kC ad sh be (coB sh f st ob (i + 1)) (coS sh f st os (i + 1)) (coC sh f st (i + 1)) ar gi pg ag pn an prn tot)]) := by rw [← ew6]; exact hD
          exact ih8 (i + 1) (by omega) (hi) _ _ hP hD hS ls (lv_sub hl [2, 3, 4, 5, 0] rfl)
  exact L8 _ 0 (Nat.lt_succ_self _) (Nat.zero_le _) _ _ hP hD hS ls (lv_sub hl [1, 2, 3, 4, 0] rfl)

abbrev b_M_weighSets : ByteArray := prog_4_method_10_code
def y_M_weighSets : MethodName := ⟨"PartShelves$Matching", "weighSets", "(IIII)V"⟩
theorem d_M_weighSets_0 : decode b_M_weighSets 0 = .ok (.iconst 1, 1) := by decide +kernel
theorem d_M_weighSets_1 : decode b_M_weighSets 1 = .ok (.iload_n 3, 1) := by decide +kernel
theorem d_M_weighSets_2 : decode b_M_weighSets 2 = .ok (.ishl, 1) := by decide +kernel
theorem d_M_weighSets_3 : decode b_M_weighSets 3 = .ok (.istore 5, 2) := by decide +kernel
theorem d_M_weighSets_5 : decode b_M_weighSets 5 = .ok (.iconst 0, 1) := by decide +kernel
theorem d_M_weighSets_6 : decode b_M_weighSets 6 = .ok (.istore 6, 2) := by decide +kernel
theorem d_M_weighSets_8 : decode b_M_weighSets 8 = .ok (.iload 6, 2) := by decide +kernel
theorem d_M_weighSets_10 : decode b_M_weighSets 10 = .ok (.iload 5, 2) := by decide +kernel
theorem d_M_weighSets_12 : decode b_M_weighSets 12 = .ok (.if_icmp .ge 17, 3) := by decide +kernel
theorem d_M_weighSets_15 : decode b_M_weighSets 15 = .ok (.aload_n 0, 1) := by decide +kernel
theorem d_M_weighSets_16 : decode b_M_weighSets 16 = .ok (.getfield 15, 3) := by decide +kernel
theorem d_M_weighSets_19 : decode b_M_weighSets 19 = .ok (.iload 6, 2) := by decide +kernel
theorem d_M_weighSets_21 : decode b_M_weighSets 21 = .ok (.lconst 0, 1) := by decide +kernel
theorem d_M_weighSets_22 : decode b_M_weighSets 22 = .ok (.lastore, 1) := by decide +kernel
theorem d_M_weighSets_23 : decode b_M_weighSets 23 = .ok (.iinc 6 1, 3) := by decide +kernel
theorem d_M_weighSets_26 : decode b_M_weighSets 26 = .ok (.goto (-18), 3) := by decide +kernel
theorem d_M_weighSets_29 : decode b_M_weighSets 29 = .ok (.iconst 0, 1) := by decide +kernel
theorem d_M_weighSets_30 : decode b_M_weighSets 30 = .ok (.istore 6, 2) := by decide +kernel
theorem d_M_weighSets_32 : decode b_M_weighSets 32 = .ok (.iload 6, 2) := by decide +kernel
theorem d_M_weighSets_34 : decode b_M_weighSets 34 = .ok (.iload_n 1, 1) := by decide +kernel
theorem d_M_weighSets_35 : decode b_M_weighSets 35 = .ok (.if_icmp .ge 33, 3) := by decide +kernel
theorem d_M_weighSets_38 : decode b_M_weighSets 38 = .ok (.aload_n 0, 1) := by decide +kernel
theorem d_M_weighSets_39 : decode b_M_weighSets 39 = .ok (.iload 6, 2) := by decide +kernel
theorem d_M_weighSets_41 : decode b_M_weighSets 41 = .ok (.iload_n 2, 1) := by decide +kernel
theorem d_M_weighSets_42 : decode b_M_weighSets 42 = .ok (.imul, 1) := by decide +kernel
theorem d_M_weighSets_43 : decode b_M_weighSets 43 = .ok (.iload_n 3, 1) := by decide +kernel
theorem d_M_weighSets_44 : decode b_M_weighSets 44 = .ok (.iload 4, 2) := by decide +kernel
theorem d_M_weighSets_46 : decode b_M_weighSets 46 = .ok (.invokevirtual 75, 3) := by decide +kernel
theorem d_M_weighSets_49 : decode b_M_weighSets 49 = .ok (.aload_n 0, 1) := by decide +kernel
theorem d_M_weighSets_50 : decode b_M_weighSets 50 = .ok (.getfield 25, 3) := by decide +kernel
theorem d_M_weighSets_53 : decode b_M_weighSets 53 = .ok (.ifCond .le 9, 3) := by decide +kernel
theorem d_M_weighSets_56 : decode b_M_weighSets 56 = .ok (.aload_n 0, 1) := by decide +kernel
theorem d_M_weighSets_57 : decode b_M_weighSets 57 = .ok (.iload 5, 2) := by decide +kernel
theorem d_M_weighSets_59 : decode b_M_weighSets 59 = .ok (.invokevirtual 79, 3) := by decide +kernel
theorem d_M_weighSets_62 : decode b_M_weighSets 62 = .ok (.iinc 6 1, 3) := by decide +kernel
theorem d_M_weighSets_65 : decode b_M_weighSets 65 = .ok (.goto (-33), 3) := by decide +kernel
theorem d_M_weighSets_68 : decode b_M_weighSets 68 = .ok (.return_, 1) := by decide +kernel
def w_M_weighSets : List Cond := .code y_M_weighSets b_M_weighSets 7 none :: ([.fieldLink "PartShelves$Matching" 15 "PartShelves$Matching" "best" "[J", .methodLink "PartShelves$Matching" 75 ⟨"PartShelves$Matching", "collectOptions", "(III)V"⟩, .instanceMethod ⟨"PartShelves$Matching", "collectOptions", "(III)V"⟩, .selects "PartShelves$Matching" ⟨"PartShelves$Matching", "collectOptions", "(III)V"⟩ ⟨"PartShelves$Matching", "collectOptions", "(III)V"⟩, .initialized "PartShelves$Matching", .code ⟨"PartShelves$Matching", "collectOptions", "(III)V"⟩ prog_4_method_11_code 7 none, .fieldLink "PartShelves$Matching" 25 "PartShelves$Matching" "optionCount" "I", .fieldLink "PartShelves$Matching" 9 "PartShelves$Matching" "shares" "[J", .constantLong "PartShelves$Matching" 50 (-1), .fieldLink "PartShelves$Matching" 18 "PartShelves$Matching" "optionBits" "[I", .fieldLink "PartShelves$Matching" 22 "PartShelves$Matching" "optionShares" "[J", .methodLink "PartShelves$Matching" 79 ⟨"PartShelves$Matching", "addRow", "(I)V"⟩, .instanceMethod ⟨"PartShelves$Matching", "addRow", "(I)V"⟩, .selects "PartShelves$Matching" ⟨"PartShelves$Matching", "addRow", "(I)V"⟩ ⟨"PartShelves$Matching", "addRow", "(I)V"⟩, .code ⟨"PartShelves$Matching", "addRow", "(I)V"⟩ prog_4_method_12_code 7 none, .methodLink "PartShelves$Matching" 83 ⟨"java/lang/Math", "max", "(JJ)J"⟩, .static ⟨"java/lang/Math", "max", "(JJ)J"⟩, .initialized "java/lang/Math", .code ⟨"java/lang/Math", "max", "(JJ)J"⟩ prog_14_method_66_code 4 (some .long)] ++ u_ws R_M F_M 13)
set_option maxRecDepth 20000 in
theorem g_M_weigh_coll : GoodIn w_M_weighSets (wsV R_M 75 R_M y_M_collectOptions w_M_collectOptions) := goodIn_p _ [6] rfl (by decide +kernel)
set_option maxRecDepth 20000 in
theorem g_M_weigh_add : GoodIn w_M_weighSets (wsV R_M 79 R_M y_M_addRow w_M_addRow) := goodIn_p _ [15, 19] rfl (by decide +kernel)
set_option maxHeartbeats 4000000 in
set_option maxRecDepth 100000 in
theorem c_M_weigh (l : Launch) (D : va_G) (kC : Nat → ClassId) (ad : Nat → Nat) (sh : Nat → Int64) (be : Nat → Int64) (ob : Nat → Int32) (os : Nat → Int64) (oc : Nat) (ar : Nat → Int32) (gi : Nat → Int32) (pg : Nat → Int64) (ag : Nat → Int64) (pn : Nat) (an : Nat) (prn : Nat) (tot : Int64) (rws : Nat) (rs : Nat) (M : Nat) (st : Nat) (sz : Nat) (eM : M ≤ 8) (hR : rws ≤ 8) (hix : ∀ r, r < rws → ∀ i, i < M → r * rs + i * st < 64) : Met l y_M_weighSets w_M_weighSets ({ frames := 2, cells := 0, slots := 0, locals := 41 } : Room) (gPre cls D (tyL kC) [.ref (ad 0), .int (nI rws), .int (nI rs), .int (nI M), .int (nI st)] (fl [(wM kC ad sh be ob os oc ar gi pg ag pn an prn tot)]) sz) (gQv cls D (tyL kC) (fl [(wM kC ad sh be ob os oc ar gi pg ag pn an prn tot)]) sz (fl [(wM kC ad sh (wsB sh rs st M (2 ^ M) be os rws) (wsOb sh rs st M ob rws) (wsOs sh rs st M os rws) (wsOc sh rs st M oc rws) ar gi pg ag pn an prn tot)])) 0 0 (va_A (fl [(wM kC ad sh be ob os oc ar gi pg ag pn an prn tot)]) sz) := by
  refine Met.ofW (cc := b_M_weighSets) (maxL := 7) (ret := none) (by decide) rfl ?_
  intro p e s m args below meth c s₁ B hml hv
  obtain ⟨rfl, hsz, hP, hK, hD0⟩ := hv
  have hx := B.exec
  have hb := B.bytes
  have hr := B.returns
  have hts := atoms_spec (ws := w_M_weighSets) B.pre
  have hown : s.vm.findClass R_M = some m.cls := findClass_of_methodNamed B.named
  have hlocks := B.notSynchronized
  subst hsz
  obtain ⟨A, hAe⟩ : ∃ A : Nat → Prop, A = va_A (fl [(wM kC ad sh be ob os oc ar gi pg ag pn an prn tot)]) s.heap.size := ⟨_, rfl⟩
  have hD : va_D A (fl [(wM kC ad sh be ob os oc ar gi pg ag pn an prn tot)]) := by rw [hAe]; exact hD0.self
  have hA : ∀ q : Nat, s.heap.size ≤ q → A q := fun q h => by rw [hAe]; exact Or.inr h
  have hS : va_S A s.heap s.heap [] := va_S.rf
  have hl := lv_entry ([.ref (ad 0), .int (nI rws), .int (nI rs), .int (nI M), .int (nI st)]) (n := 7) (Nat.le_of_ble_eq_true rfl)
  rw [lg_entry_eq]
  generalize (lg_sl ([.ref (ad 0), .int (nI rws), .int (nI rs), .int (nI M), .int (nI st)]) ++ List.replicate (7 - (lg_sl ([.ref (ad 0), .int (nI rws), .int (nI rs), .int (nI M), .int (nI st)])).length) Slot.unset).toArray = ls at hl ⊢
  have hl : lv_has ls 7 [(0, .ref (ad 0)), (1, .int (nI rws)), (2, .int (nI rs)), (3, .int (nI M)), (4, .int (nI st))] := hl
  obtain ⟨S, eS⟩ : ∃ S, S = 2 ^ M := ⟨_, rfl⟩
  obtain ⟨hS0, hS1⟩ := pow_in eS eM
  refine lv_iconst (v := nI 1) hx hb d_M_weighSets_0 (by decide) ?_
  refine lv_iload_n hx hb d_M_weighSets_1 rfl (lv_at hl 3 rfl) ?_
  refine lv_ishl hx hb d_M_weighSets_2 ?_
  refine nv_topi (y := nI S) (by rw [eS]; exact shl1 M (by omega)) ?_
  refine lv_istore (lv' := [(5, .int (nI S)), (0, .ref (ad 0)), (1, .int (nI rws)), (2, .int (nI rs)), (3, .int (nI M)), (4, .int (nI st))]) hx hb d_M_weighSets_3 hl (by decide) rfl (fun ls hl => ?_)
  refine lv_iconst (v := nI 0) hx hb d_M_weighSets_5 (by decide) ?_
  refine lv_istore (lv' := [(6, .int (nI 0)), (5, .int (nI S)), (0, .ref (ad 0)), (1, .int (nI rws)), (2, .int (nI rs)), (3, .int (nI M)), (4, .int (nI st))]) hx hb d_M_weighSets_6 hl (by decide) rfl (fun ls hl => ?_)
  have L8 : ∀ (n8 : Nat) (i : Nat), S - i < n8 → i ≤ S → ∀ (H : Heap) (locs : List Loc), va_P D cls (fl [(wM kC ad sh (zeroF be i) ob os oc ar gi pg ag pn an prn tot)]) H → va_D A (fl [(wM kC ad sh (zeroF be i) ob os oc ar gi pg ag pn an prn tot)]) → va_S A s.heap H locs → ∀ (ls : Array Slot), lv_has ls 7 [(0, .ref (ad 0)), (1, .int (nI rws)), (2, .int (nI rs)), (3, .int (nI M)), (4, .int (nI st)), (5, .int (nI S)), (6, .int (nI i))] → W p l e (headSpec w_M_weighSets ({ frames := 2, cells := 0, slots := 0, locals := 41 } : Room)).room s m ([.ref (ad 0), .int (nI rws), .int (nI rs), .int (nI M), .int (nI st)] : List Value).toArray below meth c H locs 0 0 (MQ below (gQv cls D (tyL kC) (fl [(wM kC ad sh be ob os oc ar gi pg ag pn an prn tot)]) s.heap.size (fl [(wM kC ad sh (wsB sh rs st M (2 ^ M) be os rws) (wsOb sh rs st M ob rws) (wsOs sh rs st M os rws) (wsOc sh rs st M oc rws) ar gi pg ag pn an prn tot)])) ([.ref (ad 0), .int (nI rws), .int (nI rs), .int (nI M), .int (nI st)] : List Value).toArray s 0 0 (va_A (fl [(wM kC ad sh be ob os oc ar gi pg ag pn an prn tot)]) s.heap.size)) (F0 m 8 ls []) := by
    intro n8
    induction n8 with
    | zero =>
      intro i hm
      exact absurd hm (Nat.not_lt_zero _)
    | succ n8 ih8 =>
      intro i hm hiS H locs hP hD hS ls hl
      refine lv_iload hx hb d_M_weighSets_8 (lv_at hl 6 rfl) ?_
      refine lv_iload hx hb d_M_weighSets_10 (lv_at hl 5 rfl) ?_
      refine nv_icmp_ge (tgt := 29) hx hb d_M_weighSets_12 (by decide) (by omega) (by omega) (fun hi => ?_) (fun hi => ?_)
      · obtain rfl : S = i := by omega
        refine lv_iconst (v := nI 0) hx hb d_M_weighSets_29 (by decide) ?_
        refine lv_istore (lv' := [(6, .int (nI 0)), (0, .ref (ad 0)), (1, .int (nI rws)), (2, .int (nI rs)), (3, .int (nI M)), (4, .int (nI st)), (5, .int (nI S))]) hx hb d_M_weighSets_30 hl (by decide) rfl (fun ls hl => ?_)
        have L32 : ∀ (n32 : Nat) (r : Nat), rws - r < n32 → r ≤ rws → ∀ (H : Heap) (locs : List Loc), va_P D cls (fl [(wM kC ad sh (wsB sh rs st M S be os r) (wsOb sh rs st M ob r) (wsOs sh rs st M os r) (wsOc sh rs st M oc r) ar gi pg ag pn an prn tot)]) H → va_D A (fl [(wM kC ad sh (wsB sh rs st M S be os r) (wsOb sh rs st M ob r) (wsOs sh rs st M os r) (wsOc sh rs st M oc r) ar gi pg ag pn an prn tot)]) → va_S A s.heap H locs → ∀ (ls : Array Slot), lv_has ls 7 [(0, .ref (ad 0)), (1, .int (nI rws)), (2, .int (nI rs)), (3, .int (nI M)), (4, .int (nI st)), (5, .int (nI S)), (6, .int (nI r))] → W p l e (headSpec w_M_weighSets ({ frames := 2, cells := 0, slots := 0, locals := 41 } : Room)).room s m ([.ref (ad 0), .int (nI rws), .int (nI rs), .int (nI M), .int (nI st)] : List Value).toArray below meth c H locs 0 0 (MQ below (gQv cls D (tyL kC) (fl [(wM kC ad sh be ob os oc ar gi pg ag pn an prn tot)]) s.heap.size (fl [(wM kC ad sh (wsB sh rs st M (2 ^ M) be os rws) (wsOb sh rs st M ob rws) (wsOs sh rs st M os rws) (wsOc sh rs st M oc rws) ar gi pg ag pn an prn tot)])) ([.ref (ad 0), .int (nI rws), .int (nI rs), .int (nI M), .int (nI st)] : List Value).toArray s 0 0 (va_A (fl [(wM kC ad sh be ob os oc ar gi pg ag pn an prn tot)]) s.heap.size)) (F0 m 32 ls []) := by
          intro n32
          induction n32 with
          | zero =>
            intro r hm
            exact absurd hm (Nat.not_lt_zero _)
          | succ n32 ih32 =>
            intro r hm hrr H locs hP hD hS ls hl
            refine lv_iload hx hb d_M_weighSets_32 (lv_at hl 6 rfl) ?_
            refine lv_iload_n hx hb d_M_weighSets_34 rfl (lv_at hl 1 rfl) ?_
            refine nv_icmp_ge (tgt := 68) hx hb d_M_weighSets_35 (by decide) (by omega) (by omega) (fun hr8 => ?_) (fun hr8 => ?_)
            · obtain rfl : rws = r := by omega
              subst eS
              exact W.vret hx hb hr (fun t ht hW => by subst hAe; exact ⟨⟨(), rfl, trivial, by rw [ht]; exact hP, va_K.moved hW.alike hK, hD⟩, hS.F ht⟩) (by subst hAe; exact hS.2.2) d_M_weighSets_68
            · refine lv_aload_n hx hb d_M_weighSets_38 rfl (lv_at hl 0 rfl) ?_
              refine lv_iload hx hb d_M_weighSets_39 (lv_at hl 6 rfl) ?_
              refine lv_iload_n hx hb d_M_weighSets_41 rfl (lv_at hl 2 rfl) ?_
              refine nv_imul hx hb d_M_weighSets_42 ?_
              refine lv_iload_n hx hb d_M_weighSets_43 rfl (lv_at hl 3 rfl) ?_
              refine lv_iload hx hb d_M_weighSets_44 (lv_at hl 4 rfl) ?_
              refine g_callvA (va_runV (As := [.int (nI (r * rs)), .int (nI M), .int (nI st)]) (rest := []) ⟨hx, hb, hml, hown, hts⟩ (c_M_coll l D kC ad sh (wsB sh rs st M S be os r) (wsOb sh rs st M ob r) (wsOs sh rs st M os r) (wsOc sh rs st M oc r) ar gi pg ag pn an prn tot (r * rs) M st (H).size (eM) (hix r hr8)) (cwV 3 hts g_M_weigh_coll rfl rfl rfl (by decide +kernel) ⟨Nat.le_of_ble_eq_true rfl, Nat.le_of_ble_eq_true rfl⟩) (g_preV (f_recv (ci := 3) (q0 := 0) hK hP 0 rfl rfl rfl) hK hP hD) rfl rfl hl.1 rfl (lv_room (Nat.le_of_ble_eq_true rfl)) d_M_weighSets_46 ⟨Nat.le_of_ble_eq_true rfl, Nat.le_of_ble_eq_true rfl⟩) hS hA hD (fun H locs hP hD hS => ?_)
              refine W.cs (cells' := 0) (slots' := 0) rfl rfl ?_
              have hP : va_P D cls (fl [(wM kC ad sh (wsB sh rs st M S be os r) (coB sh (r * rs) st (wsOb sh rs st M ob r) M) (coS sh (r * rs) st (wsOs sh rs st M os r) M) (coC sh (r * rs) st M) ar gi pg ag pn an prn tot)]) H := hP
              have hD : va_D A (fl [(wM kC ad sh (wsB sh rs st M S be os r) (coB sh (r * rs) st (wsOb sh rs st M ob r) M) (coS sh (r * rs) st (wsOs sh rs st M os r) M) (coC sh (r * rs) st M) ar gi pg ag pn an prn tot)]) := hD
              refine lv_aload_n hx hb d_M_weighSets_49 rfl (lv_at hl 0 rfl) ?_
              refine fv_get (ci := 3) (v := .int (nI (coC sh (r * rs) st M))) (C := R_M) (T := F_M) (N := 13) hx hb hts (by decide +kernel) hown hK hP 0 0 rfl rfl rfl 4 (by decide) (hts (.fieldLink R_M 25 "PartShelves$Matching" "optionCount" "I") (by decide +kernel)) (fun _ h9 => h9) rfl d_M_weighSets_50 ?_
              refine nv_if_le (tgt := 62) hx hb d_M_weighSets_53 (by decide) (Nat.lt_of_le_of_lt (coC_le _ _ _ _) (by omega)) (fun hc0 => ?_) (fun hc0 => ?_)
              · refine lv_iinc (v := nI (r + 1)) (lv' := [(6, .int (nI (r + 1))), (0, .ref (ad 0)), (1, .int (nI rws)), (2, .int (nI rs)), (3, .int (nI M)), (4, .int (nI st)), (5, .int (nI S))]) hx hb d_M_weighSets_62 hl (k := 6) rfl (nI_1 r) (by decide) rfl (fun ls hl => ?_)
                refine lv_goto (tgt := 32) hx hb d_M_weighSets_65 (by decide) ?_
                have ew1 : (wsB sh rs st M S be os r) = (wsB sh rs st M S be os (r + 1)) := wsB_skip hc0
                have hP : va_P D cls (fl [(wM kC ad sh (wsB sh rs st M S be os (r + 1)) (coB sh (r * rs) st (wsOb sh rs st M ob r) M) (coS sh (r * rs) st (wsOs sh rs st M os r) M) (coC sh (r * rs) st M) ar gi pg ag pn an prn tot)]) H := by rw [← ew1]; exact hP
                have hD : va_D A (fl [(wM kC ad sh (wsB sh rs st M S be os (r + 1)) (coB sh (r * rs) st (wsOb sh rs st M ob r) M) (coS sh (r * rs) st (wsOs sh rs st M os r) M) (coC sh (r * rs) st M) ar gi pg ag pn an prn tot)]) := by rw [← ew1]; exact hD
                exact ih32 (r + 1) (by omega) (hr8) _ _ hP hD hS ls (lv_sub hl [1, 2, 3, 4, 5, 6, 0] rfl)
              · refine lv_aload_n hx hb d_M_weighSets_56 rfl (lv_at hl 0 rfl) ?_
                refine lv_iload hx hb d_M_weighSets_57 (lv_at hl 5 rfl) ?_
                refine g_callvA (va_runV (As := [.int (nI S)]) (rest := []) ⟨hx, hb, hml, hown, hts⟩ (c_M_addRow l D kC ad sh (wsB sh rs st M S be os r) (coB sh (r * rs) st (wsOb sh rs st M ob r) M) (coS sh (r * rs) st (wsOs sh rs st M os r) M) (coC sh (r * rs) st M) ar gi pg ag pn an prn tot S M (coT sh (r * rs) st M) (H).size (eS) (eM) (Nat.le_trans (coC_le _ _ _ _) eM) (fun i hi => coB_T sh (r * rs) st _ M i hi)) (cwV 1 hts g_M_weigh_add rfl rfl rfl (by decide +kernel) ⟨Nat.le_of_ble_eq_true rfl, Nat.le_of_ble_eq_true rfl⟩) (g_preV (f_recv (ci := 3) (q0 := 0) hK hP 0 rfl rfl rfl) hK hP hD) rfl rfl hl.1 rfl (lv_room (Nat.le_of_ble_eq_true rfl)) d_M_weighSets_59 ⟨Nat.le_of_ble_eq_true rfl, Nat.le_of_ble_eq_true rfl⟩) hS hA hD (fun H locs hP hD hS => ?_)
                refine W.cs (cells' := 0) (slots' := 0) rfl rfl ?_
                have hP : va_P D cls (fl [(wM kC ad sh (addRowF (wsB sh rs st M S be os r) (coS sh (r * rs) st (wsOs sh rs st M os r) M) (coT sh (r * rs) st M) (coC sh (r * rs) st M) S 0) (coB sh (r * rs) st (wsOb sh rs st M ob r) M) (coS sh (r * rs) st (wsOs sh rs st M os r) M) (coC sh (r * rs) st M) ar gi pg ag pn an prn tot)]) H := hP
                have hD : va_D A (fl [(wM kC ad sh (addRowF (wsB sh rs st M S be os r) (coS sh (r * rs) st (wsOs sh rs st M os r) M) (coT sh (r * rs) st M) (coC sh (r * rs) st M) S 0) (coB sh (r * rs) st (wsOb sh rs st M ob r) M) (coS sh (r * rs) st (wsOs sh rs st M os r) M) (coC sh (r * rs) st M) ar gi pg ag pn an prn tot)]) := hD
                refine lv_iinc (v := nI (r + 1)) (lv' := [(6, .int (nI (r + 1))), (0, .ref (ad 0)), (1, .int (nI rws)), (2, .int (nI rs)), (3, .int (nI M)), (4, .int (nI st)), (5, .int (nI S))]) hx hb d_M_weighSets_62 hl (k := 6) rfl (nI_1 r) (by decide) rfl (fun ls hl => ?_)
                refine lv_goto (tgt := 32) hx hb d_M_weighSets_65 (by decide) ?_
                exact ih32 (r + 1) (by omega) (hr8) _ _ hP hD hS ls (lv_sub hl [1, 2, 3, 4, 5, 6, 0] rfl)
        exact L32 _ 0 (Nat.lt_succ_self _) (Nat.zero_le _) _ _ hP hD hS ls (lv_sub hl [1, 2, 3, 4, 5, 6, 0] rfl)
      · refine lv_aload_n hx hb d_M_weighSets_15 rfl (lv_at hl 0 rfl) ?_
        refine fv_get (ci := 3) (v := .ref (ad 2)) (C := R_M) (T := F_M) (N := 13) hx hb hts (by decide +kernel) hown hK hP 0 0 rfl rfl rfl 1 (by decide) (hts (.fieldLink R_M 15 "PartShelves$Matching" "best" "[J") (by decide +kernel)) (fun _ h9 => h9) rfl d_M_weighSets_16 ?_
        refine lv_iload hx hb d_M_weighSets_19 (lv_at hl 6 rfl) ?_
        refine lv_lconst (v := lN 0) hx hb d_M_weighSets_21 (by decide) ?_
        refine fa_last hx hb hK hP hD hS 0 2 1 rfl rfl rfl (by omega) (by decide) d_M_weighSets_22 (fun H locs hP hD hS => ?_)
        have hP : va_P D cls (fl [(wM kC ad sh (vp_updL (zeroF be i) i (lN 0)) ob os oc ar gi pg ag pn an prn tot)]) H := hP
        have hD : va_D A (fl [(wM kC ad sh (vp_updL (zeroF be i) i (lN 0)) ob os oc ar gi pg ag pn an prn tot)]) := hD
        refine lv_iinc (v := nI (i + 1)) (lv' := [(6, .int (nI (i + 1))), (0, .ref (ad 0)), (1, .int (nI rws)), (2, .int (nI rs)), (3, .int (nI M)), (4, .int (nI st)), (5, .int (nI S))]) hx hb d_M_weighSets_23 hl (k := 6) rfl (nI_1 i) (by decide) rfl (fun ls hl => ?_)
        refine lv_goto (tgt := 8) hx hb d_M_weighSets_26 (by decide) ?_
        have ew2 : (vp_updL (zeroF be i) i (lN 0)) = (zeroF be (i + 1)) := zeroF_s be i
        have hP : va_P D cls (fl [(wM kC ad sh (zeroF be (i + 1)) ob os oc ar gi pg ag pn an prn tot)]) H := by rw [← ew2]; exact hP
        have hD : va_D A (fl [(wM kC ad sh (zeroF be (i + 1)) ob os oc ar gi pg ag pn an prn tot)]) := by rw [← ew2]; exact hD
        exact ih8 (i + 1) (by omega) (hi) _ _ hP hD hS ls (lv_sub hl [1, 2, 3, 4, 5, 6, 0] rfl)
  have ew3 : be = (zeroF be 0) := (zeroF_0 be).symm
  have hP : va_P D cls (fl [(wM kC ad sh (zeroF be 0) ob os oc ar gi pg ag pn an prn tot)]) s.heap := by rw [← ew3]; exact hP
  have hD : va_D A (fl [(wM kC ad sh (zeroF be 0) ob os oc ar gi pg ag pn an prn tot)]) := by rw [← ew3]; exact hD
  exact L8 _ 0 (Nat.lt_succ_self _) (Nat.zero_le _) _ _ hP hD hS ls (lv_sub hl [2, 3, 4, 5, 6, 1, 0] rfl)

