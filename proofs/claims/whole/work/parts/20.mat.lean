/-- the matching's cells -/
def wM (kC : Nat → ClassId) (ad : Nat → Nat) (sh : Nat → Int64) (be : Nat → Int64) (ob : Nat → Int32) (os : Nat → Int64) (oc : Nat) (ar : Nat → Int32) (gi : Nat → Int32) (pg : Nat → Int64) (ag : Nat → Int64) (pn : Nat) (an : Nat) (prn : Nat) (tot : Int64) : va_W := [(ad 0, .inr (3, [.ref (ad 1), .ref (ad 2), .ref (ad 3), .ref (ad 4), .int (nI oc), .ref (ad 5), .ref (ad 6), .ref (ad 7), .ref (ad 8), .int (nI pn), .int (nI an), .int (nI prn), .long tot])), (ad 1, .inl (kC 1, 64, .inr (.inl sh))), (ad 2, .inl (kC 1, 256, .inr (.inl be))), (ad 3, .inl (kC 0, 8, .inl ob)), (ad 4, .inl (kC 1, 8, .inr (.inl os))), (ad 5, .inl (kC 0, 8, .inl ar)), (ad 6, .inl (kC 0, 8, .inl gi)), (ad 7, .inl (kC 1, 8, .inr (.inl pg))), (ad 8, .inl (kC 1, 8, .inr (.inl ag)))]
abbrev b_M_addRow : ByteArray := prog_4_method_12_code
def y_M_addRow : MethodName := ⟨"PartShelves$Matching", "addRow", "(I)V"⟩
theorem d_M_addRow_0 : decode b_M_addRow 0 = .ok (.iload_n 1, 1) := by decide +kernel
theorem d_M_addRow_1 : decode b_M_addRow 1 = .ok (.iconst 1, 1) := by decide +kernel
theorem d_M_addRow_2 : decode b_M_addRow 2 = .ok (.isub, 1) := by decide +kernel
theorem d_M_addRow_3 : decode b_M_addRow 3 = .ok (.istore_n 2, 1) := by decide +kernel
theorem d_M_addRow_4 : decode b_M_addRow 4 = .ok (.iload_n 2, 1) := by decide +kernel
theorem d_M_addRow_5 : decode b_M_addRow 5 = .ok (.ifCond .le 79, 3) := by decide +kernel
theorem d_M_addRow_8 : decode b_M_addRow 8 = .ok (.aload_n 0, 1) := by decide +kernel
theorem d_M_addRow_9 : decode b_M_addRow 9 = .ok (.getfield 15, 3) := by decide +kernel
theorem d_M_addRow_12 : decode b_M_addRow 12 = .ok (.iload_n 2, 1) := by decide +kernel
theorem d_M_addRow_13 : decode b_M_addRow 13 = .ok (.laload, 1) := by decide +kernel
theorem d_M_addRow_14 : decode b_M_addRow 14 = .ok (.lstore_n 3, 1) := by decide +kernel
theorem d_M_addRow_15 : decode b_M_addRow 15 = .ok (.iconst 0, 1) := by decide +kernel
theorem d_M_addRow_16 : decode b_M_addRow 16 = .ok (.istore 5, 2) := by decide +kernel
theorem d_M_addRow_18 : decode b_M_addRow 18 = .ok (.iload 5, 2) := by decide +kernel
theorem d_M_addRow_20 : decode b_M_addRow 20 = .ok (.aload_n 0, 1) := by decide +kernel
theorem d_M_addRow_21 : decode b_M_addRow 21 = .ok (.getfield 25, 3) := by decide +kernel
theorem d_M_addRow_24 : decode b_M_addRow 24 = .ok (.if_icmp .ge 47, 3) := by decide +kernel
theorem d_M_addRow_27 : decode b_M_addRow 27 = .ok (.aload_n 0, 1) := by decide +kernel
theorem d_M_addRow_28 : decode b_M_addRow 28 = .ok (.getfield 18, 3) := by decide +kernel
theorem d_M_addRow_31 : decode b_M_addRow 31 = .ok (.iload 5, 2) := by decide +kernel
theorem d_M_addRow_33 : decode b_M_addRow 33 = .ok (.iaload, 1) := by decide +kernel
theorem d_M_addRow_34 : decode b_M_addRow 34 = .ok (.istore 6, 2) := by decide +kernel
theorem d_M_addRow_36 : decode b_M_addRow 36 = .ok (.iload_n 2, 1) := by decide +kernel
theorem d_M_addRow_37 : decode b_M_addRow 37 = .ok (.iload 6, 2) := by decide +kernel
theorem d_M_addRow_39 : decode b_M_addRow 39 = .ok (.iand, 1) := by decide +kernel
theorem d_M_addRow_40 : decode b_M_addRow 40 = .ok (.ifCond .eq 25, 3) := by decide +kernel
theorem d_M_addRow_43 : decode b_M_addRow 43 = .ok (.lload_n 3, 1) := by decide +kernel
theorem d_M_addRow_44 : decode b_M_addRow 44 = .ok (.aload_n 0, 1) := by decide +kernel
theorem d_M_addRow_45 : decode b_M_addRow 45 = .ok (.getfield 15, 3) := by decide +kernel
theorem d_M_addRow_48 : decode b_M_addRow 48 = .ok (.iload_n 2, 1) := by decide +kernel
theorem d_M_addRow_49 : decode b_M_addRow 49 = .ok (.iload 6, 2) := by decide +kernel
theorem d_M_addRow_51 : decode b_M_addRow 51 = .ok (.ixor, 1) := by decide +kernel
theorem d_M_addRow_52 : decode b_M_addRow 52 = .ok (.laload, 1) := by decide +kernel
theorem d_M_addRow_53 : decode b_M_addRow 53 = .ok (.aload_n 0, 1) := by decide +kernel
theorem d_M_addRow_54 : decode b_M_addRow 54 = .ok (.getfield 22, 3) := by decide +kernel
theorem d_M_addRow_57 : decode b_M_addRow 57 = .ok (.iload 5, 2) := by decide +kernel
theorem d_M_addRow_59 : decode b_M_addRow 59 = .ok (.laload, 1) := by decide +kernel
theorem d_M_addRow_60 : decode b_M_addRow 60 = .ok (.ladd, 1) := by decide +kernel
theorem d_M_addRow_61 : decode b_M_addRow 61 = .ok (.invokestatic 83, 3) := by decide +kernel
theorem d_M_addRow_64 : decode b_M_addRow 64 = .ok (.lstore_n 3, 1) := by decide +kernel
theorem d_M_addRow_65 : decode b_M_addRow 65 = .ok (.iinc 5 1, 3) := by decide +kernel
theorem d_M_addRow_68 : decode b_M_addRow 68 = .ok (.goto (-50), 3) := by decide +kernel
theorem d_M_addRow_71 : decode b_M_addRow 71 = .ok (.aload_n 0, 1) := by decide +kernel
theorem d_M_addRow_72 : decode b_M_addRow 72 = .ok (.getfield 15, 3) := by decide +kernel
theorem d_M_addRow_75 : decode b_M_addRow 75 = .ok (.iload_n 2, 1) := by decide +kernel
theorem d_M_addRow_76 : decode b_M_addRow 76 = .ok (.lload_n 3, 1) := by decide +kernel
theorem d_M_addRow_77 : decode b_M_addRow 77 = .ok (.lastore, 1) := by decide +kernel
theorem d_M_addRow_78 : decode b_M_addRow 78 = .ok (.iinc 2 (-1), 3) := by decide +kernel
theorem d_M_addRow_81 : decode b_M_addRow 81 = .ok (.goto (-77), 3) := by decide +kernel
theorem d_M_addRow_84 : decode b_M_addRow 84 = .ok (.return_, 1) := by decide +kernel
def w_M_addRow : List Cond := .code y_M_addRow b_M_addRow 7 none :: ([.fieldLink "PartShelves$Matching" 15 "PartShelves$Matching" "best" "[J", .fieldLink "PartShelves$Matching" 25 "PartShelves$Matching" "optionCount" "I", .fieldLink "PartShelves$Matching" 18 "PartShelves$Matching" "optionBits" "[I", .fieldLink "PartShelves$Matching" 22 "PartShelves$Matching" "optionShares" "[J", .methodLink "PartShelves$Matching" 83 ⟨"java/lang/Math", "max", "(JJ)J"⟩, .static ⟨"java/lang/Math", "max", "(JJ)J"⟩, .initialized "java/lang/Math", .code ⟨"java/lang/Math", "max", "(JJ)J"⟩ prog_14_method_66_code 4 (some .long)] ++ u_ws R_M F_M 13)
set_option maxHeartbeats 4000000 in
set_option maxRecDepth 100000 in
/-- addRow: the sets from the greatest down take one more row -/
theorem c_M_addRow (l : Launch) (D : va_G) (kC : Nat → ClassId) (ad : Nat → Nat) (sh : Nat → Int64) (be : Nat → Int64) (ob : Nat → Int32) (os : Nat → Int64) (oc : Nat) (ar : Nat → Int32) (gi : Nat → Int32) (pg : Nat → Int64) (ag : Nat → Int64) (pn : Nat) (an : Nat) (prn : Nat) (tot : Int64) (S : Nat) (M : Nat) (bt : Nat → Nat) (sz : Nat) (eS : S = 2 ^ M) (eM : M ≤ 8) (hc : oc ≤ 8) (hbt : ∀ i, i < oc → ob i = nI (bt i) ∧ ∃ q, q < M ∧ bt i = 2 ^ q) : Met l y_M_addRow w_M_addRow ({ frames := 1, cells := 0, slots := 0, locals := 15 } : Room) (gPre cls D (tyL kC) [.ref (ad 0), .int (nI S)] (fl [(wM kC ad sh be ob os oc ar gi pg ag pn an prn tot)]) sz) (gQv cls D (tyL kC) (fl [(wM kC ad sh be ob os oc ar gi pg ag pn an prn tot)]) sz (fl [(wM kC ad sh (addRowF be os bt oc S 0) ob os oc ar gi pg ag pn an prn tot)])) 0 0 (va_A (fl [(wM kC ad sh be ob os oc ar gi pg ag pn an prn tot)]) sz) := by
  refine Met.ofW (cc := b_M_addRow) (maxL := 7) (ret := none) (by decide) rfl ?_
  intro p e s m args below meth c s₁ B hml hv
  obtain ⟨rfl, hsz, hP, hK, hD0⟩ := hv
  have hx := B.exec
  have hb := B.bytes
  have hr := B.returns
  have hts := atoms_spec (ws := w_M_addRow) B.pre
  have hown : s.vm.findClass R_M = some m.cls := findClass_of_methodNamed B.named
  have hlocks := B.notSynchronized
  subst hsz
  obtain ⟨A, hAe⟩ : ∃ A : Nat → Prop, A = va_A (fl [(wM kC ad sh be ob os oc ar gi pg ag pn an prn tot)]) s.heap.size := ⟨_, rfl⟩
  have hD : va_D A (fl [(wM kC ad sh be ob os oc ar gi pg ag pn an prn tot)]) := by rw [hAe]; exact hD0.self
  have hA : ∀ q : Nat, s.heap.size ≤ q → A q := fun q h => by rw [hAe]; exact Or.inr h
  have hS : va_S A s.heap s.heap [] := va_S.rf
  have hl := lv_entry ([.ref (ad 0), .int (nI S)]) (n := 7) (Nat.le_of_ble_eq_true rfl)
  rw [lg_entry_eq]
  generalize (lg_sl ([.ref (ad 0), .int (nI S)]) ++ List.replicate (7 - (lg_sl ([.ref (ad 0), .int (nI S)])).length) Slot.unset).toArray = ls at hl ⊢
  have hl : lv_has ls 7 [(0, .ref (ad 0)), (1, .int (nI S))] := hl
  obtain ⟨hS0, hS1⟩ := pow_in eS eM
  refine lv_iload_n hx hb d_M_addRow_0 rfl (lv_at hl 1 rfl) ?_
  refine lv_iconst (v := nI 1) hx hb d_M_addRow_1 (by decide) ?_
  refine nv_isub hx hb d_M_addRow_2 (by omega) ?_
  refine lv_istore_n (lv' := [(2, .int (nI (S - 1))), (0, .ref (ad 0)), (1, .int (nI S))]) hx hb d_M_addRow_3 rfl hl (by decide) rfl (fun ls hl => ?_)
  have L4 : ∀ (n4 : Nat) (k : Nat), k < n4 → k < S → ∀ (H : Heap) (locs : List Loc), va_P D cls (fl [(wM kC ad sh (addRowF be os bt oc S k) ob os oc ar gi pg ag pn an prn tot)]) H → va_D A (fl [(wM kC ad sh (addRowF be os bt oc S k) ob os oc ar gi pg ag pn an prn tot)]) → va_S A s.heap H locs → ∀ (ls : Array Slot), lv_has ls 7 [(0, .ref (ad 0)), (1, .int (nI S)), (2, .int (nI k))] → W p l e (headSpec w_M_addRow ({ frames := 1, cells := 0, slots := 0, locals := 15 } : Room)).room s m ([.ref (ad 0), .int (nI S)] : List Value).toArray below meth c H locs 0 0 (MQ below (gQv cls D (tyL kC) (fl [(wM kC ad sh be ob os oc ar gi pg ag pn an prn tot)]) s.heap.size (fl [(wM kC ad sh (addRowF be os bt oc S 0) ob os oc ar gi pg ag pn an prn tot)])) ([.ref (ad 0), .int (nI S)] : List Value).toArray s 0 0 (va_A (fl [(wM kC ad sh be ob os oc ar gi pg ag pn an prn tot)]) s.heap.size)) (F0 m 4 ls []) := by
    intro n4
    induction n4 with
    | zero =>
      intro k hm
      exact absurd hm (Nat.not_lt_zero _)
    | succ n4 ih4 =>
      intro k hm hk H locs hP hD hS ls hl
      refine lv_iload_n hx hb d_M_addRow_4 rfl (lv_at hl 2 rfl) ?_
      refine nv_if_le (tgt := 84) hx hb d_M_addRow_5 (by decide) (by omega) (fun hk0 => ?_) (fun hk0 => ?_)
      · subst hk0
        exact W.vret hx hb hr (fun t ht hW => by subst hAe; exact ⟨⟨(), rfl, trivial, by rw [ht]; exact hP, va_K.moved hW.alike hK, hD⟩, hS.F ht⟩) (by subst hAe; exact hS.2.2) d_M_addRow_84
      · refine lv_aload_n hx hb d_M_addRow_8 rfl (lv_at hl 0 rfl) ?_
        refine fv_get (ci := 3) (v := .ref (ad 2)) (C := R_M) (T := F_M) (N := 13) hx hb hts (by decide +kernel) hown hK hP 0 0 rfl rfl rfl 1 (by decide) (hts (.fieldLink R_M 15 "PartShelves$Matching" "best" "[J") (by decide +kernel)) (fun _ h9 => h9) rfl d_M_addRow_9 ?_
        refine lv_iload_n hx hb d_M_addRow_12 rfl (lv_at hl 2 rfl) ?_
        refine fa_lald hx hb hK hP 0 2 1 rfl rfl rfl (by omega) (by decide) d_M_addRow_13 ?_
        refine nv_topl (y := rowMost be os bt k 0) (addRowF_le be os bt oc S k k (Nat.le_refl k)) ?_
        refine lv_lstore_n (lv' := [(3, .long (rowMost be os bt k 0)), (0, .ref (ad 0)), (1, .int (nI S)), (2, .int (nI k))]) hx hb d_M_addRow_14 rfl hl (by decide) rfl (fun ls hl => ?_)
        refine lv_iconst (v := nI 0) hx hb d_M_addRow_15 (by decide) ?_
        refine lv_istore (lv' := [(5, .int (nI 0)), (3, .long (rowMost be os bt k 0)), (0, .ref (ad 0)), (1, .int (nI S)), (2, .int (nI k))]) hx hb d_M_addRow_16 hl (by decide) rfl (fun ls hl => ?_)
        have L18 : ∀ (n18 : Nat) (i : Nat), oc - i < n18 → i ≤ oc → ∀ (H : Heap) (locs : List Loc), va_P D cls (fl [(wM kC ad sh (addRowF be os bt oc S k) ob os oc ar gi pg ag pn an prn tot)]) H → va_D A (fl [(wM kC ad sh (addRowF be os bt oc S k) ob os oc ar gi pg ag pn an prn tot)]) → va_S A s.heap H locs → ∀ (ls : Array Slot), lv_has ls 7 [(0, .ref (ad 0)), (1, .int (nI S)), (2, .int (nI k)), (3, .long (rowMost be os bt k i)), (5, .int (nI i))] → W p l e (headSpec w_M_addRow ({ frames := 1, cells := 0, slots := 0, locals := 15 } : Room)).room s m ([.ref (ad 0), .int (nI S)] : List Value).toArray below meth c H locs 0 0 (MQ below (gQv cls D (tyL kC) (fl [(wM kC ad sh be ob os oc ar gi pg ag pn an prn tot)]) s.heap.size (fl [(wM kC ad sh (addRowF be os bt oc S 0) ob os oc ar gi pg ag pn an prn tot)])) ([.ref (ad 0), .int (nI S)] : List Value).toArray s 0 0 (va_A (fl [(wM kC ad sh be ob os oc ar gi pg ag pn an prn tot)]) s.heap.size)) (F0 m 18 ls []) := by
          intro n18
          induction n18 with
          | zero =>
            intro i hm
            exact absurd hm (Nat.not_lt_zero _)
          | succ n18 ih18 =>
            intro i hm hi H locs hP hD hS ls hl
            refine lv_iload hx hb d_M_addRow_18 (lv_at hl 4 rfl) ?_
            refine lv_aload_n hx hb d_M_addRow_20 rfl (lv_at hl 0 rfl) ?_
            refine fv_get (ci := 3) (v := .int (nI oc)) (C := R_M) (T := F_M) (N := 13) hx hb hts (by decide +kernel) hown hK hP 0 0 rfl rfl rfl 4 (by decide) (hts (.fieldLink R_M 25 "PartShelves$Matching" "optionCount" "I") (by decide +kernel)) (fun _ h9 => h9) rfl d_M_addRow_21 ?_
            refine nv_icmp_ge (tgt := 71) hx hb d_M_addRow_24 (by decide) (by omega) (by omega) (fun hic => ?_) (fun hic => ?_)
            · obtain rfl : oc = i := by omega
              refine lv_aload_n hx hb d_M_addRow_71 rfl (lv_at hl 0 rfl) ?_
              refine fv_get (ci := 3) (v := .ref (ad 2)) (C := R_M) (T := F_M) (N := 13) hx hb hts (by decide +kernel) hown hK hP 0 0 rfl rfl rfl 1 (by decide) (hts (.fieldLink R_M 15 "PartShelves$Matching" "best" "[J") (by decide +kernel)) (fun _ h9 => h9) rfl d_M_addRow_72 ?_
              refine lv_iload_n hx hb d_M_addRow_75 rfl (lv_at hl 2 rfl) ?_
              refine lv_lload_n hx hb d_M_addRow_76 rfl (lv_at hl 3 rfl) ?_
              refine fa_last hx hb hK hP hD hS 0 2 1 rfl rfl rfl (by omega) (by decide) d_M_addRow_77 (fun H locs hP hD hS => ?_)
              have hP : va_P D cls (fl [(wM kC ad sh (vp_updL (addRowF be os bt oc S k) k (rowMost be os bt k oc)) ob os oc ar gi pg ag pn an prn tot)]) H := hP
              have hD : va_D A (fl [(wM kC ad sh (vp_updL (addRowF be os bt oc S k) k (rowMost be os bt k oc)) ob os oc ar gi pg ag pn an prn tot)]) := hD
              refine lv_iinc (v := nI (k - 1)) (lv' := [(2, .int (nI (k - 1))), (0, .ref (ad 0)), (1, .int (nI S)), (3, .long (rowMost be os bt k oc)), (5, .int (nI oc))]) hx hb d_M_addRow_78 hl (k := 2) rfl (m1_i hk0) (by decide) rfl (fun ls hl => ?_)
              refine lv_goto (tgt := 4) hx hb d_M_addRow_81 (by decide) ?_
              have ew1 : (vp_updL (addRowF be os bt oc S k) k (rowMost be os bt k oc)) = (addRowF be os bt oc S (k - 1)) := addRowF_s be os bt oc S k hk0 hk
              have hP : va_P D cls (fl [(wM kC ad sh (addRowF be os bt oc S (k - 1)) ob os oc ar gi pg ag pn an prn tot)]) H := by rw [← ew1]; exact hP
              have hD : va_D A (fl [(wM kC ad sh (addRowF be os bt oc S (k - 1)) ob os oc ar gi pg ag pn an prn tot)]) := by rw [← ew1]; exact hD
              exact ih4 (k - 1) (by omega) (by omega) _ _ hP hD hS ls (lv_sub hl [1, 2, 0] rfl)
            · obtain ⟨hob, q, hq, hbq⟩ := hbt i hic
              refine lv_aload_n hx hb d_M_addRow_27 rfl (lv_at hl 0 rfl) ?_
              refine fv_get (ci := 3) (v := .ref (ad 3)) (C := R_M) (T := F_M) (N := 13) hx hb hts (by decide +kernel) hown hK hP 0 0 rfl rfl rfl 2 (by decide) (hts (.fieldLink R_M 18 "PartShelves$Matching" "optionBits" "[I") (by decide +kernel)) (fun _ h9 => h9) rfl d_M_addRow_28 ?_
              refine lv_iload hx hb d_M_addRow_31 (lv_at hl 4 rfl) ?_
              refine fa_iald hx hb hK hP 0 3 0 rfl rfl rfl (by omega) (by decide) d_M_addRow_33 ?_
              refine nv_topi (y := nI (bt i)) (hob) ?_
              refine lv_istore (lv' := [(6, .int (nI (bt i))), (0, .ref (ad 0)), (1, .int (nI S)), (2, .int (nI k)), (3, .long (rowMost be os bt k i)), (5, .int (nI i))]) hx hb d_M_addRow_34 hl (by decide) rfl (fun ls hl => ?_)
              refine lv_iload_n hx hb d_M_addRow_36 rfl (lv_at hl 3 rfl) ?_
              refine lv_iload hx hb d_M_addRow_37 (lv_at hl 0 rfl) ?_
              refine lv_iand hx hb d_M_addRow_39 ?_
              refine nv_topi (y := nI (k &&& bt i)) (nx_and _ _) ?_
              refine nv_if_eq (tgt := 65) hx hb d_M_addRow_40 (by decide) (Nat.lt_of_le_of_lt Nat.and_le_left (by omega)) (fun hb0 => ?_) (fun hb0 => ?_)
              · have el2 : rowMost be os bt k i = rowMost be os bt k (i + 1) := (if_pos hb0).symm
                have hl : lv_has ls 7 [(6, .int (nI (bt i))), (0, .ref (ad 0)), (1, .int (nI S)), (2, .int (nI k)), (3, .long (rowMost be os bt k (i + 1))), (5, .int (nI i))] := by rw [← el2]; exact hl
                refine lv_iinc (v := nI (i + 1)) (lv' := [(5, .int (nI (i + 1))), (6, .int (nI (bt i))), (0, .ref (ad 0)), (1, .int (nI S)), (2, .int (nI k)), (3, .long (rowMost be os bt k (i + 1)))]) hx hb d_M_addRow_65 hl (k := 5) rfl (nI_1 i) (by decide) rfl (fun ls hl => ?_)
                refine lv_goto (tgt := 18) hx hb d_M_addRow_68 (by decide) ?_
                exact ih18 (i + 1) (by omega) (hic) _ _ hP hD hS ls (lv_sub hl [2, 3, 4, 5, 0] rfl)
              · have hxk : k ^^^ bt i < k := by rw [hbq] at hb0 ⊢; exact xor_lt (by omega) (by omega) hb0
                refine lv_lload_n hx hb d_M_addRow_43 rfl (lv_at hl 4 rfl) ?_
                refine lv_aload_n hx hb d_M_addRow_44 rfl (lv_at hl 1 rfl) ?_
                refine fv_get (ci := 3) (v := .ref (ad 2)) (C := R_M) (T := F_M) (N := 13) hx hb hts (by decide +kernel) hown hK hP 0 0 rfl rfl rfl 1 (by decide) (hts (.fieldLink R_M 15 "PartShelves$Matching" "best" "[J") (by decide +kernel)) (fun _ h9 => h9) rfl d_M_addRow_45 ?_
                refine lv_iload_n hx hb d_M_addRow_48 rfl (lv_at hl 3 rfl) ?_
                refine lv_iload hx hb d_M_addRow_49 (lv_at hl 0 rfl) ?_
                refine lv_ixor hx hb d_M_addRow_51 ?_
                refine nv_topi (y := nI (k ^^^ bt i)) (nx_xor _ _) ?_
                refine fa_lald hx hb hK hP 0 2 1 rfl rfl rfl (by omega) (by decide) d_M_addRow_52 ?_
                refine nv_topl (y := be (k ^^^ bt i)) (addRowF_le be os bt oc S k _ (Nat.le_of_lt hxk)) ?_
                refine lv_aload_n hx hb d_M_addRow_53 rfl (lv_at hl 1 rfl) ?_
                refine fv_get (ci := 3) (v := .ref (ad 4)) (C := R_M) (T := F_M) (N := 13) hx hb hts (by decide +kernel) hown hK hP 0 0 rfl rfl rfl 3 (by decide) (hts (.fieldLink R_M 22 "PartShelves$Matching" "optionShares" "[J") (by decide +kernel)) (fun _ h9 => h9) rfl d_M_addRow_54 ?_
                refine lv_iload hx hb d_M_addRow_57 (lv_at hl 5 rfl) ?_
                refine fa_lald hx hb hK hP 0 4 1 rfl rfl rfl (by omega) (by decide) d_M_addRow_59 ?_
                refine lv_ladd hx hb d_M_addRow_60 ?_
                refine va_mmax_long hx hb (by rw [hml]; exact hl.1.symm) hown (hts (.methodLink R_M 83 Lib.MathLoose.max_long.x) (by decide +kernel)) (hts (.static Lib.MathLoose.max_long.x) (by decide +kernel)) (hts (.initialized "java/lang/Math") (by decide +kernel)) (hts _ (List.mem_of_getElem? (i := 8) rfl)) (by decide) (by decide) (Nat.zero_le _) (Nat.zero_le _) d_M_addRow_61 ?_
                refine lv_lstore_n (lv' := [(3, .long (mxL (rowMost be os bt k i) ((be (k ^^^ bt i)) + (os i)))), (6, .int (nI (bt i))), (0, .ref (ad 0)), (1, .int (nI S)), (2, .int (nI k)), (5, .int (nI i))]) hx hb d_M_addRow_64 rfl hl (by decide) rfl (fun ls hl => ?_)
                have el3 : mxL (rowMost be os bt k i) ((be (k ^^^ bt i)) + (os i)) = rowMost be os bt k (i + 1) := (if_neg hb0).symm
                have hl : lv_has ls 7 [(3, .long (rowMost be os bt k (i + 1))), (6, .int (nI (bt i))), (0, .ref (ad 0)), (1, .int (nI S)), (2, .int (nI k)), (5, .int (nI i))] := by rw [← el3]; exact hl
                refine lv_iinc (v := nI (i + 1)) (lv' := [(5, .int (nI (i + 1))), (3, .long (rowMost be os bt k (i + 1))), (6, .int (nI (bt i))), (0, .ref (ad 0)), (1, .int (nI S)), (2, .int (nI k))]) hx hb d_M_addRow_65 hl (k := 5) rfl (nI_1 i) (by decide) rfl (fun ls hl => ?_)
                refine lv_goto (tgt := 18) hx hb d_M_addRow_68 (by decide) ?_
                exact ih18 (i + 1) (by omega) (hic) _ _ hP hD hS ls (lv_sub hl [3, 4, 5, 1, 0] rfl)
        exact L18 _ 0 (Nat.lt_succ_self _) (Nat.zero_le _) _ _ hP hD hS ls (lv_sub hl [2, 3, 4, 1, 0] rfl)
  have ew4 : be = (addRowF be os bt oc S (S - 1)) := (addRowF_S be os bt oc S).symm
  have hP : va_P D cls (fl [(wM kC ad sh (addRowF be os bt oc S (S - 1)) ob os oc ar gi pg ag pn an prn tot)]) s.heap := by rw [← ew4]; exact hP
  have hD : va_D A (fl [(wM kC ad sh (addRowF be os bt oc S (S - 1)) ob os oc ar gi pg ag pn an prn tot)]) := by rw [← ew4]; exact hD
  exact L4 _ (S - 1) (Nat.lt_succ_self _) (by omega) _ _ hP hD hS ls (lv_sub hl [1, 2, 0] rfl)

