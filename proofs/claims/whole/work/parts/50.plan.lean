/-- the plan -/
def wN (kC : Nat → ClassId) (ad : Nat → Nat) (rr : Nat → Nat) (fc : Nat → Nat) (tot : Int64) (ch : Nat) : va_W := [(ad 0, .inr (6, [.ref (ad 1), .ref (ad 2), .long (tot), .int (nI ch)])), (ad 1, .inl (kC 4, 6, .inr (.inr (.inr (.inr (rfO 6 rr)))))), (ad 2, .inl (kC 0, 6, .inl (fun j => nI (fc j))))]
/-- how many parts of a kind the jobs of a set need -/
def ndC (jne : Nat → Nat → Nat) (z k : Nat) : Nat → Nat
  | 0 => 0
  | j + 1 => ndC jne z k j + if z / 2 ^ j % 2 = 1 then jne j k else 0
theorem ndC_le {jne : Nat → Nat → Nat} {z k : Nat} (h : ∀ j k, jne j k ≤ 3) : ∀ j, ndC jne z k j ≤ 3 * j
  | 0 => Nat.le_refl 0
  | j + 1 => by
    have ih := ndC_le (z := z) (k := k) h j
    have := h j k
    show ndC jne z k j + (if z / 2 ^ j % 2 = 1 then jne j k else 0) ≤ 3 * (j + 1)
    split <;> omega
def psm (f : Nat → Nat) : Nat → Nat
  | 0 => 0
  | i + 1 => psm f i + f i
theorem psm_le {f : Nat → Nat} {B : Nat} (h : ∀ i, f i ≤ B) : ∀ i, psm f i ≤ i * B
  | 0 => Nat.zero_le _
  | i + 1 => by
    have := psm_le h i
    have := h i
    show psm f i + f i ≤ (i + 1) * B
    rw [Nat.succ_mul]; omega
def kcC (fc : Nat → Nat) (fp jne : Nat → Nat → Nat) (z n k : Nat) : Option Nat := if ndC jne z k n ≤ fc k then some (psm (fp k) (ndC jne z k n)) else none
/-- one more price, in its place -/
def insF (v : Nat) : Nat → (Nat → Nat) → Nat → Nat
  | 0, f => updN f 0 v
  | j + 1, f => if v < f j then insF v j (updN f (j + 1) (f j)) else updN f (j + 1) v
theorem insF_le {v B : Nat} (hv : v ≤ B) : ∀ (j : Nat) (f : Nat → Nat), (∀ i, f i ≤ B) → ∀ i, insF v j f i ≤ B
  | 0, f, h, i => by simp only [insF, updN]; split; exact hv; exact h i
  | j + 1, f, h, i => by
    simp only [insF]
    split
    · exact insF_le hv j _ (fun i => by simp only [updN]; split; exact h j; exact h i) i
    · simp only [updN]; split; exact hv; exact h i
def zf (fc : Nat → Nat) (j : Nat) : Nat → Nat := fun i => if i < j then 0 else fc i
theorem zf_0 (fc : Nat → Nat) : zf fc 0 = fc := by funext i; simp [zf]
theorem zf_s (fc : Nat → Nat) (k : Nat) : updN (zf fc k) k 0 = zf fc (k + 1) := by
  funext j
  simp only [updN, zf]
  by_cases h : j = k
  · rw [if_pos h, if_pos (by omega)]
  · rw [if_neg h]
    by_cases h2 : j < k
    · rw [if_pos h2, if_pos (by omega)]
    · rw [if_neg h2, if_neg (by omega)]
theorem mI_ge : ∀ a, a < 7 → ∀ b, b < 7 → ((0 : Int32) ≤ nI a - nI b ↔ b ≤ a) := by decide +kernel
theorem mI_gt : ∀ a, a < 7 → ∀ b, b < 7 → ((0 : Int32) < nI a - nI b ↔ b < a) := by decide +kernel
abbrev b_P_hasMember : ByteArray := prog_1_method_32_code
def y_P_hasMember : MethodName := ⟨"PartShelves", "hasMember", "(II)Z"⟩
theorem d_P_hasMember_0 : decode b_P_hasMember 0 = .ok (.iload_n 0, 1) := by decide +kernel
theorem d_P_hasMember_1 : decode b_P_hasMember 1 = .ok (.iload_n 1, 1) := by decide +kernel
theorem d_P_hasMember_2 : decode b_P_hasMember 2 = .ok (.ishr, 1) := by decide +kernel
theorem d_P_hasMember_3 : decode b_P_hasMember 3 = .ok (.iconst 1, 1) := by decide +kernel
theorem d_P_hasMember_4 : decode b_P_hasMember 4 = .ok (.iand, 1) := by decide +kernel
theorem d_P_hasMember_5 : decode b_P_hasMember 5 = .ok (.iconst 1, 1) := by decide +kernel
theorem d_P_hasMember_6 : decode b_P_hasMember 6 = .ok (.if_icmp .ne 7, 3) := by decide +kernel
theorem d_P_hasMember_9 : decode b_P_hasMember 9 = .ok (.iconst 1, 1) := by decide +kernel
theorem d_P_hasMember_10 : decode b_P_hasMember 10 = .ok (.goto 4, 3) := by decide +kernel
theorem d_P_hasMember_13 : decode b_P_hasMember 13 = .ok (.iconst 0, 1) := by decide +kernel
theorem d_P_hasMember_14 : decode b_P_hasMember 14 = .ok (.ireturn, 1) := by decide +kernel
def w_P_hasMember : List Cond := .code y_P_hasMember b_P_hasMember 2 (some .boolean) :: ([])
set_option maxHeartbeats 4000000 in
set_option maxRecDepth 100000 in
theorem c_P_hasM (l : Launch) (z : Nat) (j : Nat) (hzb : z < 2 ^ 31) (hjb : j < 31) : Met l y_P_hasMember w_P_hasMember ({ frames := 0, cells := 0, slots := 0, locals := 0 } : Room) (gP0 [.int (nI z), .int (nI j)]) (vp_Si (fun r => r = bI (z / 2 ^ j % 2 = 1))) 0 0 (fun _ => False) := by
  refine Met.ofW (cc := b_P_hasMember) (maxL := 2) (ret := (some .boolean)) (by decide) rfl ?_
  intro p e s m args below meth c s₁ B hml hv
  obtain rfl := hv
  have hx := B.exec
  have hb := B.bytes
  have hr := B.returns
  have hts := atoms_spec (ws := w_P_hasMember) B.pre
  have hown : s.vm.findClass R_P = some m.cls := findClass_of_methodNamed B.named
  have hlocks := B.notSynchronized
  have hl := lv_entry ([.int (nI z), .int (nI j)]) (n := 2) (Nat.le_of_ble_eq_true rfl)
  rw [lg_entry_eq]
  generalize (lg_sl ([.int (nI z), .int (nI j)]) ++ List.replicate (2 - (lg_sl ([.int (nI z), .int (nI j)])).length) Slot.unset).toArray = ls at hl ⊢
  have hl : lv_has ls 2 [(0, .int (nI z)), (1, .int (nI j))] := hl
  refine lv_iload_n hx hb d_P_hasMember_0 rfl (lv_at hl 0 rfl) ?_
  refine lv_iload_n hx hb d_P_hasMember_1 rfl (lv_at hl 1 rfl) ?_
  refine lv_ishr hx hb d_P_hasMember_2 ?_
  refine lv_iconst (v := nI 1) hx hb d_P_hasMember_3 (by decide) ?_
  refine lv_iand hx hb d_P_hasMember_4 ?_
  refine nv_topi (y := nI (z / 2 ^ j % 2)) (bitI hzb hjb) ?_
  refine lv_iconst (v := nI 1) hx hb d_P_hasMember_5 (by decide) ?_
  refine nv_icmp_ne (tgt := 13) hx hb d_P_hasMember_6 (by decide) (by omega) (by omega) (fun hc => ?_) (fun hc => ?_)
  · refine lv_iconst (v := nI 0) hx hb d_P_hasMember_13 (by decide) ?_
    exact W.zret (v := nI 0) hx hb hr (nar_b (by first | exact Or.inl rfl | exact Or.inr rfl | exact bI_01)) (fun t ht hW => ⟨_, rfl, (bI_f hc).symm, ht⟩) t_nil d_P_hasMember_14
  · refine lv_iconst (v := nI 1) hx hb d_P_hasMember_9 (by decide) ?_
    refine lv_goto (tgt := 14) hx hb d_P_hasMember_10 (by decide) ?_
    exact W.zret (v := nI 1) hx hb hr (nar_b (by first | exact Or.inl rfl | exact Or.inr rfl | exact bI_01)) (fun t ht hW => ⟨_, rfl, (bI_t hc).symm, ht⟩) t_nil d_P_hasMember_14

abbrev b_N_neededOf : ByteArray := prog_7_method_6_code
def y_N_neededOf : MethodName := ⟨"PartShelves$RepairPlan", "neededOf", "(IILjava/util/ArrayList;)I"⟩
theorem d_N_neededOf_0 : decode b_N_neededOf 0 = .ok (.iconst 0, 1) := by decide +kernel
theorem d_N_neededOf_1 : decode b_N_neededOf 1 = .ok (.istore_n 3, 1) := by decide +kernel
theorem d_N_neededOf_2 : decode b_N_neededOf 2 = .ok (.iconst 0, 1) := by decide +kernel
theorem d_N_neededOf_3 : decode b_N_neededOf 3 = .ok (.istore 4, 2) := by decide +kernel
theorem d_N_neededOf_5 : decode b_N_neededOf 5 = .ok (.iload 4, 2) := by decide +kernel
theorem d_N_neededOf_7 : decode b_N_neededOf 7 = .ok (.aload_n 2, 1) := by decide +kernel
theorem d_N_neededOf_8 : decode b_N_neededOf 8 = .ok (.invokevirtual 30, 3) := by decide +kernel
theorem d_N_neededOf_11 : decode b_N_neededOf 11 = .ok (.if_icmp .ge 35, 3) := by decide +kernel
theorem d_N_neededOf_14 : decode b_N_neededOf 14 = .ok (.iload_n 1, 1) := by decide +kernel
theorem d_N_neededOf_15 : decode b_N_neededOf 15 = .ok (.iload 4, 2) := by decide +kernel
theorem d_N_neededOf_17 : decode b_N_neededOf 17 = .ok (.invokestatic 50, 3) := by decide +kernel
theorem d_N_neededOf_20 : decode b_N_neededOf 20 = .ok (.ifCond .eq 20, 3) := by decide +kernel
theorem d_N_neededOf_23 : decode b_N_neededOf 23 = .ok (.iload_n 3, 1) := by decide +kernel
theorem d_N_neededOf_24 : decode b_N_neededOf 24 = .ok (.aload_n 2, 1) := by decide +kernel
theorem d_N_neededOf_25 : decode b_N_neededOf 25 = .ok (.iload 4, 2) := by decide +kernel
theorem d_N_neededOf_27 : decode b_N_neededOf 27 = .ok (.invokevirtual 54, 3) := by decide +kernel
theorem d_N_neededOf_30 : decode b_N_neededOf 30 = .ok (.checkcast 58, 3) := by decide +kernel
theorem d_N_neededOf_33 : decode b_N_neededOf 33 = .ok (.getfield 60, 3) := by decide +kernel
theorem d_N_neededOf_36 : decode b_N_neededOf 36 = .ok (.iload_n 0, 1) := by decide +kernel
theorem d_N_neededOf_37 : decode b_N_neededOf 37 = .ok (.iaload, 1) := by decide +kernel
theorem d_N_neededOf_38 : decode b_N_neededOf 38 = .ok (.iadd, 1) := by decide +kernel
theorem d_N_neededOf_39 : decode b_N_neededOf 39 = .ok (.istore_n 3, 1) := by decide +kernel
theorem d_N_neededOf_40 : decode b_N_neededOf 40 = .ok (.iinc 4 1, 3) := by decide +kernel
theorem d_N_neededOf_43 : decode b_N_neededOf 43 = .ok (.goto (-38), 3) := by decide +kernel
theorem d_N_neededOf_46 : decode b_N_neededOf 46 = .ok (.iload_n 3, 1) := by decide +kernel
theorem d_N_neededOf_47 : decode b_N_neededOf 47 = .ok (.ireturn, 1) := by decide +kernel
def w_N_neededOf : List Cond := .code y_N_neededOf b_N_neededOf 5 (some .int) :: ([.methodLink "PartShelves$RepairPlan" 30 ⟨"java/util/ArrayList", "size", "()I"⟩, .instanceMethod ⟨"java/util/ArrayList", "size", "()I"⟩, .selects "java/util/ArrayList" ⟨"java/util/ArrayList", "size", "()I"⟩ ⟨"java/util/ArrayList", "size", "()I"⟩, .initialized "java/util/ArrayList", .code ⟨"java/util/ArrayList", "size", "()I"⟩ prog_18_method_8_code 1 (some .int), .fieldLink "java/util/ArrayList" 48 "java/util/ArrayList" "size" "I", .sameField "java/util/ArrayList" "java/util/AbstractList" "modCount" "I", .static ⟨"PartShelves", "hasMember", "(II)Z"⟩, .initialized "PartShelves", .code ⟨"PartShelves", "hasMember", "(II)Z"⟩ prog_1_method_32_code 2 (some .boolean), .methodLink "PartShelves$RepairPlan" 54 ⟨"java/util/ArrayList", "get", "(I)Ljava/lang/Object;"⟩, .instanceMethod ⟨"java/util/ArrayList", "get", "(I)Ljava/lang/Object;"⟩, .selects "java/util/ArrayList" ⟨"java/util/ArrayList", "get", "(I)Ljava/lang/Object;"⟩ ⟨"java/util/ArrayList", "get", "(I)Ljava/lang/Object;"⟩, .code ⟨"java/util/ArrayList", "get", "(I)Ljava/lang/Object;"⟩ prog_18_method_20_code 2 (some (.object "java/lang/Object")), .methodLink "java/util/ArrayList" 118 ⟨"java/util/Objects", "checkIndex", "(II)I"⟩, .static ⟨"java/util/Objects", "checkIndex", "(II)I"⟩, .initialized "java/util/Objects", .code ⟨"java/util/Objects", "checkIndex", "(II)I"⟩ prog_22_method_17_code 2 (some .int), .methodLink "java/util/Objects" 105 ⟨"jdk/internal/util/Preconditions", "checkIndex", "(IILjava/util/function/BiFunction;)I"⟩, .static ⟨"jdk/internal/util/Preconditions", "checkIndex", "(IILjava/util/function/BiFunction;)I"⟩, .initialized "jdk/internal/util/Preconditions", .code ⟨"jdk/internal/util/Preconditions", "checkIndex", "(IILjava/util/function/BiFunction;)I"⟩ prog_26_method_11_code 3 (some .int), .methodLink "java/util/ArrayList" 123 ⟨"java/util/ArrayList", "elementData", "(I)Ljava/lang/Object;"⟩, .instanceMethod ⟨"java/util/ArrayList", "elementData", "(I)Ljava/lang/Object;"⟩, .selects "java/util/ArrayList" ⟨"java/util/ArrayList", "elementData", "(I)Ljava/lang/Object;"⟩ ⟨"java/util/ArrayList", "elementData", "(I)Ljava/lang/Object;"⟩, .code ⟨"java/util/ArrayList", "elementData", "(I)Ljava/lang/Object;"⟩ prog_18_method_18_code 2 (some (.object "java/lang/Object")), .fieldLink "java/util/ArrayList" 9 "java/util/ArrayList" "elementData" "[Ljava/lang/Object;", .classLink "PartShelves$RepairPlan" 58 "PartShelves$Job", .fieldLink "PartShelves$RepairPlan" 60 "PartShelves$Job" "needs" "[I"] ++ u_ws R_L F_L 3 ++ u_ws R_J F_J 1)
set_option maxRecDepth 20000 in
theorem g_N_nd_sz : GoodIn w_N_neededOf (wsV R_N 30 R_L y_L_size w_L_size) := goodIn_p _ [5] rfl (by decide +kernel)
set_option maxRecDepth 20000 in
theorem g_N_nd_get : GoodIn w_N_neededOf (wsV R_N 54 R_L y_L_get w_L_get) := goodIn_p _ [14, 18, 22, 26] rfl (by decide +kernel)
set_option maxRecDepth 20000 in
theorem g_N_nd_has : GoodIn w_N_neededOf (w_P_hasMember) := goodIn_p _ [10] rfl (by decide +kernel)
set_option maxHeartbeats 4000000 in
set_option maxRecDepth 100000 in
theorem c_N_need (l : Launch) (D : va_G) (kC : Nat → ClassId) (eD : Nat) (h : Nat) (md : Int32) (x : Nat) (n : Nat) (ja : Nat → Nat) (jx : Nat → Nat) (jne : Nat → Nat → Nat) (k : Nat) (z : Nat) (hk : k < 6) (hz64 : z < 64) (hn6 : n ≤ 6) (hne : ∀ j k, jne j k ≤ 3) : Met l y_N_neededOf w_N_neededOf ({ frames := 3, cells := 0, slots := 0, locals := 64 } : Room) (gPrz cls D (tyL kC) [.int (nI k), .int (nI z), .ref h] (fl [(wLq kC eD h md x n ja), (pJ kC ja jx jne n)])) (vp_Si (fun r => r = nI (ndC jne z k n))) 0 0 (fun _ => False) := by
  refine Met.ofW (cc := b_N_neededOf) (maxL := 5) (ret := (some .int)) (by decide) rfl ?_
  intro p e s m args below meth c s₁ B hml hv
  obtain ⟨rfl, hP, hK, hzw⟩ := hv
  have hx := B.exec
  have hb := B.bytes
  have hr := B.returns
  have hts := atoms_spec (ws := w_N_neededOf) B.pre
  have hown : s.vm.findClass R_N = some m.cls := findClass_of_methodNamed B.named
  have hlocks := B.notSynchronized
  have hl := lv_entry ([.int (nI k), .int (nI z), .ref h]) (n := 5) (Nat.le_of_ble_eq_true rfl)
  rw [lg_entry_eq]
  generalize (lg_sl ([.int (nI k), .int (nI z), .ref h]) ++ List.replicate (5 - (lg_sl ([.int (nI k), .int (nI z), .ref h])).length) Slot.unset).toArray = ls at hl ⊢
  have hl : lv_has ls 5 [(0, .int (nI k)), (1, .int (nI z)), (2, .ref h)] := hl
  refine lv_iconst (v := nI 0) hx hb d_N_neededOf_0 (by decide) ?_
  refine lv_istore_n (lv' := [(3, .int (nI 0)), (0, .int (nI k)), (1, .int (nI z)), (2, .ref h)]) hx hb d_N_neededOf_1 rfl hl (by decide) rfl (fun ls hl => ?_)
  refine lv_iconst (v := nI 0) hx hb d_N_neededOf_2 (by decide) ?_
  refine lv_istore (lv' := [(4, .int (nI 0)), (3, .int (nI 0)), (0, .int (nI k)), (1, .int (nI z)), (2, .ref h)]) hx hb d_N_neededOf_3 hl (by decide) rfl (fun ls hl => ?_)
  have L5 : ∀ (n5 : Nat) (j : Nat), n - j < n5 → j ≤ n → ∀ (ls : Array Slot), lv_has ls 5 [(0, .int (nI k)), (1, .int (nI z)), (2, .ref h), (3, .int (nI (ndC jne z k j))), (4, .int (nI j))] → W p l e (headSpec w_N_neededOf ({ frames := 3, cells := 0, slots := 0, locals := 64 } : Room)).room s m ([.int (nI k), .int (nI z), .ref h] : List Value).toArray below meth c s.heap [] 0 0 (MQ below (vp_Si (fun r => r = nI (ndC jne z k n))) ([.int (nI k), .int (nI z), .ref h] : List Value).toArray s 0 0 (fun _ => False)) (F0 m 5 ls []) := by
    intro n5
    induction n5 with
    | zero =>
      intro j hm
      exact absurd hm (Nat.not_lt_zero _)
    | succ n5 ih5 =>
      intro j hm hjn ls hl
      refine lv_iload hx hb d_N_neededOf_5 (lv_at hl 4 rfl) ?_
      refine lv_aload_n hx hb d_N_neededOf_7 rfl (lv_at hl 2 rfl) ?_
      refine r_calli (W.runV (As := []) (rest := [.int (nI j)]) ⟨hx, hb, hml, hown, hts⟩ (c_Lq_size l D kC eD h md x n ja) (cwV 0 hts g_N_nd_sz rfl rfl rfl (by decide +kernel) ⟨Nat.le_of_ble_eq_true rfl, Nat.le_of_ble_eq_true rfl⟩) (r_preV (q_recv hK hP 0 rfl) hK (fl_sub hP [0] rfl)) rfl rfl hl.1 rfl (lv_room (Nat.le_of_ble_eq_true rfl)) d_N_neededOf_8 ⟨Nat.le_of_ble_eq_true rfl, Nat.le_of_ble_eq_true rfl⟩) ?_
      refine nv_icmp_ge (tgt := 46) hx hb d_N_neededOf_11 (by decide) (by omega) (by omega) (fun hj => ?_) (fun hj => ?_)
      · obtain rfl : n = j := by omega
        refine lv_iload_n hx hb d_N_neededOf_46 rfl (lv_at hl 3 rfl) ?_
        exact W.iret (v := nI (ndC jne z k n)) hx hb hr (fun t ht hW => ⟨_, rfl, rfl, ht⟩) t_nil d_N_neededOf_47
      · have hnj := ndC_le (z := z) (k := k) hne j
        have hnk := hne j k
        refine lv_iload_n hx hb d_N_neededOf_14 rfl (lv_at hl 1 rfl) ?_
        refine lv_iload hx hb d_N_neededOf_15 (lv_at hl 4 rfl) ?_
        refine r_calli (runN (va_runSN (As := [.int (nI z), .int (nI j)]) (rest := []) ⟨hx, hb, hml, hown, hts⟩ (c_P_hasM l z j (by omega) (by omega)) (⟨va_cnB (host := "PartShelves") 2 hts g_N_nd_has rfl rfl rfl (hzw.1 _ (by decide +kernel)) (hts (.initialized R_P) (by decide +kernel)) (by decide +kernel) ⟨Nat.le_of_ble_eq_true rfl, Nat.le_of_ble_eq_true rfl⟩, hts (.static y_P_hasMember) (by decide +kernel), trivial⟩) p0_preS rfl rfl hl.1 rfl (lv_room (Nat.le_of_ble_eq_true rfl)) d_N_neededOf_17 ⟨Nat.le_of_ble_eq_true rfl, Nat.le_of_ble_eq_true rfl⟩)) ?_
        refine lv_if_eq (tgt := 40) hx hb d_N_neededOf_20 (by decide) (fun hb1 => ?_) (fun hb1 => ?_)
        · have el1 : nI (ndC jne z k j) = nI (ndC jne z k (j + 1)) := congrArg nI (show ndC jne z k j = _ by simp only [ndC]; rw [if_neg (bI_0.mp hb1)]; rfl)
          have hl : lv_has ls 5 [(0, .int (nI k)), (1, .int (nI z)), (2, .ref h), (3, .int (nI (ndC jne z k (j + 1)))), (4, .int (nI j))] := by rw [← el1]; exact hl
          refine lv_iinc (v := nI (j + 1)) (lv' := [(4, .int (nI (j + 1))), (0, .int (nI k)), (1, .int (nI z)), (2, .ref h), (3, .int (nI (ndC jne z k (j + 1))))]) hx hb d_N_neededOf_40 hl (k := 4) rfl (nI_1 j) (by decide) rfl (fun ls hl => ?_)
          refine lv_goto (tgt := 5) hx hb d_N_neededOf_43 (by decide) ?_
          exact ih5 (j + 1) (by omega) (hj) ls (lv_sub hl [1, 2, 3, 4, 0] rfl)
        · refine lv_iload_n hx hb d_N_neededOf_23 rfl (lv_at hl 3 rfl) ?_
          refine lv_aload_n hx hb d_N_neededOf_24 rfl (lv_at hl 2 rfl) ?_
          refine lv_iload hx hb d_N_neededOf_25 (lv_at hl 4 rfl) ?_
          refine r_callq (W.runV (As := [.int (nI j)]) (rest := [.int (nI (ndC jne z k j))]) ⟨hx, hb, hml, hown, hts⟩ (c_Lq_get l D kC eD h md x n ja j (hj) (by omega)) (cwV 1 hts g_N_nd_get rfl rfl rfl (by decide +kernel) ⟨Nat.le_of_ble_eq_true rfl, Nat.le_of_ble_eq_true rfl⟩) (r_preV (q_recv hK hP 0 rfl) hK (fl_sub hP [0] rfl)) rfl rfl hl.1 rfl (lv_room (Nat.le_of_ble_eq_true rfl)) d_N_neededOf_27 ⟨Nat.le_of_ble_eq_true rfl, Nat.le_of_ble_eq_true rfl⟩) ?_
          refine W.eq (g2 := F0 m 30 ls [.ref (ja j), .int (nI (ndC jne z k j))]) rfl ?_
          have hPez2 := hP
          have ez2 : fl [(wLq kC eD h md x n ja), (pJ kC ja jx jne n)] = fl [(wLq kC eD h md x n ja), (pJ kC ja jx jne j), (wJ kC (ja j) (jx j) (jne j)), (pJr kC ja jx jne n j)] := zm [(wLq kC eD h md x n ja)] [] (g := fun i => (wJ kC (ja i) (jx i) (jne i))) (hj)
          have hP : va_P D cls (fl [(wLq kC eD h md x n ja), (pJ kC ja jx jne j), (wJ kC (ja j) (jx j) (jne j)), (pJr kC ja jx jne n j)]) s.heap := by rw [← ez2]; exact hP
          refine va_castY (C := R_J) hx hb hown (hts (.classLink R_N 58 "PartShelves$Job") (by decide +kernel)) (hzw.1 _ (by decide +kernel)) (f_recv (ci := 2) (q0 := 0) hK hP 2 rfl rfl rfl) d_N_neededOf_30 ?_
          refine fv_get (ci := 2) (v := .ref (jx j)) (C := R_J) (T := F_J) (N := 1) hx hb hts (by decide +kernel) hown hK hP 2 0 rfl rfl rfl 0 (by decide) (hts (.fieldLink R_N 60 "PartShelves$Job" "needs" "[I") (by decide +kernel)) (fun _ h9 => h9) rfl d_N_neededOf_33 ?_
          refine lv_iload_n hx hb d_N_neededOf_36 rfl (lv_at hl 0 rfl) ?_
          refine fa_ialdN hx hb hK hP 2 1 0 rfl rfl rfl (by omega) (by decide) d_N_neededOf_37 ?_
          have hP : va_P D cls (fl [(wLq kC eD h md x n ja), (pJ kC ja jx jne n)]) s.heap := hPez2
          refine nv_iadd hx hb d_N_neededOf_38 ?_
          refine lv_istore_n (lv' := [(3, .int (nI (ndC jne z k j + (jne j) k))), (0, .int (nI k)), (1, .int (nI z)), (2, .ref h), (4, .int (nI j))]) hx hb d_N_neededOf_39 rfl hl (by decide) rfl (fun ls hl => ?_)
          have el3 : nI (ndC jne z k j + (jne j) k) = nI (ndC jne z k (j + 1)) := congrArg nI (show ndC jne z k j + jne j k = _ by simp only [ndC]; rw [if_pos (bI_n0.mp hb1)])
          have hl : lv_has ls 5 [(3, .int (nI (ndC jne z k (j + 1)))), (0, .int (nI k)), (1, .int (nI z)), (2, .ref h), (4, .int (nI j))] := by rw [← el3]; exact hl
          refine lv_iinc (v := nI (j + 1)) (lv' := [(4, .int (nI (j + 1))), (3, .int (nI (ndC jne z k (j + 1)))), (0, .int (nI k)), (1, .int (nI z)), (2, .ref h)]) hx hb d_N_neededOf_40 hl (k := 4) rfl (nI_1 j) (by decide) rfl (fun ls hl => ?_)
          refine lv_goto (tgt := 5) hx hb d_N_neededOf_43 (by decide) ?_
          exact ih5 (j + 1) (by omega) (hj) ls (lv_sub hl [2, 3, 4, 1, 0] rfl)
  exact L5 _ 0 (Nat.lt_succ_self _) (Nat.zero_le _) ls (lv_sub hl [2, 3, 4, 1, 0] rfl)

abbrev b_N_begin : ByteArray := prog_7_method_2_code
def y_N_begin : MethodName := ⟨"PartShelves$RepairPlan", "begin", "()V"⟩
theorem d_N_begin_0 : decode b_N_begin 0 = .ok (.iconst 0, 1) := by decide +kernel
theorem d_N_begin_1 : decode b_N_begin 1 = .ok (.istore_n 1, 1) := by decide +kernel
theorem d_N_begin_2 : decode b_N_begin 2 = .ok (.iload_n 1, 1) := by decide +kernel
theorem d_N_begin_3 : decode b_N_begin 3 = .ok (.bipush 6, 2) := by decide +kernel
theorem d_N_begin_5 : decode b_N_begin 5 = .ok (.if_icmp .ge 16, 3) := by decide +kernel
theorem d_N_begin_8 : decode b_N_begin 8 = .ok (.aload_n 0, 1) := by decide +kernel
theorem d_N_begin_9 : decode b_N_begin 9 = .ok (.getfield 16, 3) := by decide +kernel
theorem d_N_begin_12 : decode b_N_begin 12 = .ok (.iload_n 1, 1) := by decide +kernel
theorem d_N_begin_13 : decode b_N_begin 13 = .ok (.iconst 0, 1) := by decide +kernel
theorem d_N_begin_14 : decode b_N_begin 14 = .ok (.iastore, 1) := by decide +kernel
theorem d_N_begin_15 : decode b_N_begin 15 = .ok (.iinc 1 1, 3) := by decide +kernel
theorem d_N_begin_18 : decode b_N_begin 18 = .ok (.goto (-16), 3) := by decide +kernel
theorem d_N_begin_21 : decode b_N_begin 21 = .ok (.return_, 1) := by decide +kernel
def w_N_begin : List Cond := .code y_N_begin b_N_begin 2 none :: ([.fieldLink "PartShelves$RepairPlan" 16 "PartShelves$RepairPlan" "freeCounts" "[I"] ++ u_ws R_N F_N 4)
set_option maxHeartbeats 4000000 in
set_option maxRecDepth 100000 in
theorem c_N_begin (l : Launch) (D : va_G) (kC : Nat → ClassId) (ad : Nat → Nat) (rr : Nat → Nat) (fc : Nat → Nat) (tot : Int64) (ch : Nat) (sz : Nat) : Met l y_N_begin w_N_begin ({ frames := 0, cells := 0, slots := 0, locals := 0 } : Room) (gPre cls D (tyL kC) [.ref (ad 0)] (fl [(wN kC ad rr fc tot ch)]) sz) (gQv cls D (tyL kC) (fl [(wN kC ad rr fc tot ch)]) sz (fl [(wN kC ad rr (zf fc 6) tot ch)])) 0 0 (va_A (fl [(wN kC ad rr fc tot ch)]) sz) := by
  refine Met.ofW (cc := b_N_begin) (maxL := 2) (ret := none) (by decide) rfl ?_
  intro p e s m args below meth c s₁ B hml hv
  obtain ⟨rfl, hsz, hP, hK, hD0⟩ := hv
  have hx := B.exec
  have hb := B.bytes
  have hr := B.returns
  have hts := atoms_spec (ws := w_N_begin) B.pre
  have hown : s.vm.findClass R_N = some m.cls := findClass_of_methodNamed B.named
  have hlocks := B.notSynchronized
  subst hsz
  obtain ⟨A, hAe⟩ : ∃ A : Nat → Prop, A = va_A (fl [(wN kC ad rr fc tot ch)]) s.heap.size := ⟨_, rfl⟩
  have hD : va_D A (fl [(wN kC ad rr fc tot ch)]) := by rw [hAe]; exact hD0.self
  have hA : ∀ q : Nat, s.heap.size ≤ q → A q := fun q h => by rw [hAe]; exact Or.inr h
  have hS : va_S A s.heap s.heap [] := va_S.rf
  have hl := lv_entry ([.ref (ad 0)]) (n := 2) (Nat.le_of_ble_eq_true rfl)
  rw [lg_entry_eq]
  generalize (lg_sl ([.ref (ad 0)]) ++ List.replicate (2 - (lg_sl ([.ref (ad 0)])).length) Slot.unset).toArray = ls at hl ⊢
  have hl : lv_has ls 2 [(0, .ref (ad 0))] := hl
  refine lv_iconst (v := nI 0) hx hb d_N_begin_0 (by decide) ?_
  refine lv_istore_n (lv' := [(1, .int (nI 0)), (0, .ref (ad 0))]) hx hb d_N_begin_1 rfl hl (by decide) rfl (fun ls hl => ?_)
  have L2 : ∀ (n2 : Nat) (k : Nat), 6 - k < n2 → k ≤ 6 → ∀ (H : Heap) (locs : List Loc), va_P D cls (fl [(wN kC ad rr (zf fc k) tot ch)]) H → va_D A (fl [(wN kC ad rr (zf fc k) tot ch)]) → va_S A s.heap H locs → ∀ (ls : Array Slot), lv_has ls 2 [(0, .ref (ad 0)), (1, .int (nI k))] → W p l e (headSpec w_N_begin ({ frames := 0, cells := 0, slots := 0, locals := 0 } : Room)).room s m ([.ref (ad 0)] : List Value).toArray below meth c H locs 0 0 (MQ below (gQv cls D (tyL kC) (fl [(wN kC ad rr fc tot ch)]) s.heap.size (fl [(wN kC ad rr (zf fc 6) tot ch)])) ([.ref (ad 0)] : List Value).toArray s 0 0 (va_A (fl [(wN kC ad rr fc tot ch)]) s.heap.size)) (F0 m 2 ls []) := by
    intro n2
    induction n2 with
    | zero =>
      intro k hm
      exact absurd hm (Nat.not_lt_zero _)
    | succ n2 ih2 =>
      intro k hm hk6 H locs hP hD hS ls hl
      refine lv_iload_n hx hb d_N_begin_2 rfl (lv_at hl 1 rfl) ?_
      refine lv_bipush (v := nI 6) hx hb d_N_begin_3 (by decide +kernel) ?_
      refine nv_icmp_ge (tgt := 21) hx hb d_N_begin_5 (by decide) (by omega) (by omega) (fun hk => ?_) (fun hk => ?_)
      · obtain rfl : k = 6 := by omega
        exact W.vret hx hb hr (fun t ht hW => by subst hAe; exact ⟨⟨(), rfl, trivial, by rw [ht]; exact hP, va_K.moved hW.alike hK, hD⟩, hS.F ht⟩) (by subst hAe; exact hS.2.2) d_N_begin_21
      · refine lv_aload_n hx hb d_N_begin_8 rfl (lv_at hl 0 rfl) ?_
        refine fv_get (ci := 6) (v := .ref (ad 2)) (C := R_N) (T := F_N) (N := 4) hx hb hts (by decide +kernel) hown hK hP 0 0 rfl rfl rfl 1 (by decide) (hts (.fieldLink R_N 16 "PartShelves$RepairPlan" "freeCounts" "[I") (by decide +kernel)) (fun _ h9 => h9) rfl d_N_begin_9 ?_
        refine lv_iload_n hx hb d_N_begin_12 rfl (lv_at hl 1 rfl) ?_
        refine lv_iconst (v := nI 0) hx hb d_N_begin_13 (by decide) ?_
        refine fa_iastN hx hb hK hP hD hS 0 2 0 rfl rfl rfl (by omega) (by decide) d_N_begin_14 (fun H locs hP hD hS => ?_)
        have hP : va_P D cls (fl [(wN kC ad rr (updN (zf fc k) k 0) tot ch)]) H := hP
        have hD : va_D A (fl [(wN kC ad rr (updN (zf fc k) k 0) tot ch)]) := hD
        refine lv_iinc (v := nI (k + 1)) (lv' := [(1, .int (nI (k + 1))), (0, .ref (ad 0))]) hx hb d_N_begin_15 hl (k := 1) rfl (nI_1 k) (by decide) rfl (fun ls hl => ?_)
        refine lv_goto (tgt := 2) hx hb d_N_begin_18 (by decide) ?_
        have ew1 : (updN (zf fc k) k 0) = (zf fc (k + 1)) := zf_s _ _
        have hP : va_P D cls (fl [(wN kC ad rr (zf fc (k + 1)) tot ch)]) H := by rw [← ew1]; exact hP
        have hD : va_D A (fl [(wN kC ad rr (zf fc (k + 1)) tot ch)]) := by rw [← ew1]; exact hD
        exact ih2 (k + 1) (by omega) (hk) _ _ hP hD hS ls (lv_sub hl [1, 0] rfl)
  have ew2 : fc = (zf fc 0) := (zf_0 _).symm
  have hP : va_P D cls (fl [(wN kC ad rr (zf fc 0) tot ch)]) s.heap := by rw [← ew2]; exact hP
  have hD : va_D A (fl [(wN kC ad rr (zf fc 0) tot ch)]) := by rw [← ew2]; exact hD
  exact L2 _ 0 (Nat.lt_succ_self _) (by decide) _ _ hP hD hS ls (lv_sub hl [1, 0] rfl)

abbrev b_N_stock : ByteArray := prog_7_method_3_code
def y_N_stock : MethodName := ⟨"PartShelves$RepairPlan", "stock", "(IJ)V"⟩
theorem d_N_stock_0 : decode b_N_stock 0 = .ok (.aload_n 0, 1) := by decide +kernel
theorem d_N_stock_1 : decode b_N_stock 1 = .ok (.getfield 11, 3) := by decide +kernel
theorem d_N_stock_4 : decode b_N_stock 4 = .ok (.iload_n 1, 1) := by decide +kernel
theorem d_N_stock_5 : decode b_N_stock 5 = .ok (.aaload, 1) := by decide +kernel
theorem d_N_stock_6 : decode b_N_stock 6 = .ok (.astore 4, 2) := by decide +kernel
theorem d_N_stock_8 : decode b_N_stock 8 = .ok (.aload_n 0, 1) := by decide +kernel
theorem d_N_stock_9 : decode b_N_stock 9 = .ok (.getfield 16, 3) := by decide +kernel
theorem d_N_stock_12 : decode b_N_stock 12 = .ok (.iload_n 1, 1) := by decide +kernel
theorem d_N_stock_13 : decode b_N_stock 13 = .ok (.iaload, 1) := by decide +kernel
theorem d_N_stock_14 : decode b_N_stock 14 = .ok (.istore 5, 2) := by decide +kernel
theorem d_N_stock_16 : decode b_N_stock 16 = .ok (.iload 5, 2) := by decide +kernel
theorem d_N_stock_18 : decode b_N_stock 18 = .ok (.ifCond .le 33, 3) := by decide +kernel
theorem d_N_stock_21 : decode b_N_stock 21 = .ok (.aload 4, 2) := by decide +kernel
theorem d_N_stock_23 : decode b_N_stock 23 = .ok (.iload 5, 2) := by decide +kernel
theorem d_N_stock_25 : decode b_N_stock 25 = .ok (.iconst 1, 1) := by decide +kernel
theorem d_N_stock_26 : decode b_N_stock 26 = .ok (.isub, 1) := by decide +kernel
theorem d_N_stock_27 : decode b_N_stock 27 = .ok (.laload, 1) := by decide +kernel
theorem d_N_stock_28 : decode b_N_stock 28 = .ok (.lload_n 2, 1) := by decide +kernel
theorem d_N_stock_29 : decode b_N_stock 29 = .ok (.lcmp, 1) := by decide +kernel
theorem d_N_stock_30 : decode b_N_stock 30 = .ok (.ifCond .le 21, 3) := by decide +kernel
theorem d_N_stock_33 : decode b_N_stock 33 = .ok (.aload 4, 2) := by decide +kernel
theorem d_N_stock_35 : decode b_N_stock 35 = .ok (.iload 5, 2) := by decide +kernel
theorem d_N_stock_37 : decode b_N_stock 37 = .ok (.aload 4, 2) := by decide +kernel
theorem d_N_stock_39 : decode b_N_stock 39 = .ok (.iload 5, 2) := by decide +kernel
theorem d_N_stock_41 : decode b_N_stock 41 = .ok (.iconst 1, 1) := by decide +kernel
theorem d_N_stock_42 : decode b_N_stock 42 = .ok (.isub, 1) := by decide +kernel
theorem d_N_stock_43 : decode b_N_stock 43 = .ok (.laload, 1) := by decide +kernel
theorem d_N_stock_44 : decode b_N_stock 44 = .ok (.lastore, 1) := by decide +kernel
theorem d_N_stock_45 : decode b_N_stock 45 = .ok (.iinc 5 (-1), 3) := by decide +kernel
theorem d_N_stock_48 : decode b_N_stock 48 = .ok (.goto (-32), 3) := by decide +kernel
theorem d_N_stock_51 : decode b_N_stock 51 = .ok (.aload 4, 2) := by decide +kernel
theorem d_N_stock_53 : decode b_N_stock 53 = .ok (.iload 5, 2) := by decide +kernel
theorem d_N_stock_55 : decode b_N_stock 55 = .ok (.lload_n 2, 1) := by decide +kernel
theorem d_N_stock_56 : decode b_N_stock 56 = .ok (.lastore, 1) := by decide +kernel
theorem d_N_stock_57 : decode b_N_stock 57 = .ok (.aload_n 0, 1) := by decide +kernel
theorem d_N_stock_58 : decode b_N_stock 58 = .ok (.getfield 16, 3) := by decide +kernel
theorem d_N_stock_61 : decode b_N_stock 61 = .ok (.iload_n 1, 1) := by decide +kernel
theorem d_N_stock_62 : decode b_N_stock 62 = .ok (.dup2, 1) := by decide +kernel
theorem d_N_stock_63 : decode b_N_stock 63 = .ok (.iaload, 1) := by decide +kernel
theorem d_N_stock_64 : decode b_N_stock 64 = .ok (.iconst 1, 1) := by decide +kernel
theorem d_N_stock_65 : decode b_N_stock 65 = .ok (.iadd, 1) := by decide +kernel
theorem d_N_stock_66 : decode b_N_stock 66 = .ok (.iastore, 1) := by decide +kernel
theorem d_N_stock_67 : decode b_N_stock 67 = .ok (.return_, 1) := by decide +kernel
def w_N_stock : List Cond := .code y_N_stock b_N_stock 6 none :: ([.fieldLink "PartShelves$RepairPlan" 11 "PartShelves$RepairPlan" "freePrices" "[[J", .fieldLink "PartShelves$RepairPlan" 16 "PartShelves$RepairPlan" "freeCounts" "[I"] ++ u_ws R_N F_N 4)
set_option maxHeartbeats 4000000 in
set_option maxRecDepth 100000 in
theorem c_N_stock (l : Launch) (D : va_G) (kC : Nat → ClassId) (ad : Nat → Nat) (rr : Nat → Nat) (fc : Nat → Nat) (tot : Int64) (ch : Nat) (fp : Nat → Nat → Nat) (k : Nat) (v : Nat) (sz : Nat) (hk : k < 6) (hv : v ≤ 100000) (hfc : fc k < 8) (hfp : ∀ i, fp k i ≤ 100000) : Met l y_N_stock w_N_stock ({ frames := 0, cells := 0, slots := 0, locals := 0 } : Room) (gPre cls D (tyL kC) [.ref (ad 0), .int (nI k), .long (lN v)] (fl [(wN kC ad rr fc tot ch), (pF kC rr fp)]) sz) (gQv cls D (tyL kC) (fl [(wN kC ad rr fc tot ch), (pF kC rr fp)]) sz (fl [(wN kC ad rr (updN fc k (fc k + 1)) tot ch), (pF kC rr (va_up fp k (insF v (fc k) (fp k))))])) 0 0 (va_A (fl [(wN kC ad rr fc tot ch), (pF kC rr fp)]) sz) := by
  refine Met.ofW (cc := b_N_stock) (maxL := 6) (ret := none) (by decide) rfl ?_
  intro p e s m args below meth c s₁ B hml hv
  obtain ⟨rfl, hsz, hP, hK, hD0⟩ := hv
  have hx := B.exec
  have hb := B.bytes
  have hr := B.returns
  have hts := atoms_spec (ws := w_N_stock) B.pre
  have hown : s.vm.findClass R_N = some m.cls := findClass_of_methodNamed B.named
  have hlocks := B.notSynchronized
  subst hsz
  obtain ⟨A, hAe⟩ : ∃ A : Nat → Prop, A = va_A (fl [(wN kC ad rr fc tot ch), (pF kC rr fp)]) s.heap.size := ⟨_, rfl⟩
  have hD : va_D A (fl [(wN kC ad rr fc tot ch), (pF kC rr fp)]) := by rw [hAe]; exact hD0.self
  have hA : ∀ q : Nat, s.heap.size ≤ q → A q := fun q h => by rw [hAe]; exact Or.inr h
  have hS : va_S A s.heap s.heap [] := va_S.rf
  have hl := lv_entry ([.ref (ad 0), .int (nI k), .long (lN v)]) (n := 6) (Nat.le_of_ble_eq_true rfl)
  rw [lg_entry_eq]
  generalize (lg_sl ([.ref (ad 0), .int (nI k), .long (lN v)]) ++ List.replicate (6 - (lg_sl ([.ref (ad 0), .int (nI k), .long (lN v)])).length) Slot.unset).toArray = ls at hl ⊢
  have hl : lv_has ls 6 [(0, .ref (ad 0)), (1, .int (nI k)), (2, .long (lN v))] := hl
  refine lv_aload_n hx hb d_N_stock_0 rfl (lv_at hl 0 rfl) ?_
  refine fv_get (ci := 6) (v := .ref (ad 1)) (C := R_N) (T := F_N) (N := 4) hx hb hts (by decide +kernel) hown hK hP 0 0 rfl rfl rfl 0 (by decide) (hts (.fieldLink R_N 11 "PartShelves$RepairPlan" "freePrices" "[[J") (by decide +kernel)) (fun _ h9 => h9) rfl d_N_stock_1 ?_
  refine lv_iload_n hx hb d_N_stock_4 rfl (lv_at hl 1 rfl) ?_
  refine fa_aldA hx hb hK hP 0 1 4 rfl rfl rfl (hk) (by decide) d_N_stock_5 ?_
  refine W.eq (g2 := F0 m 6 ls [.ref (rr k)]) (by rw [rfO_at (hk)]; rfl) ?_
  refine lv_astore (lv' := [(4, .ref (rr k)), (0, .ref (ad 0)), (1, .int (nI k)), (2, .long (lN v))]) hx hb d_N_stock_6 hl (by decide) rfl (fun ls hl => ?_)
  refine lv_aload_n hx hb d_N_stock_8 rfl (lv_at hl 1 rfl) ?_
  refine fv_get (ci := 6) (v := .ref (ad 2)) (C := R_N) (T := F_N) (N := 4) hx hb hts (by decide +kernel) hown hK hP 0 0 rfl rfl rfl 1 (by decide) (hts (.fieldLink R_N 16 "PartShelves$RepairPlan" "freeCounts" "[I") (by decide +kernel)) (fun _ h9 => h9) rfl d_N_stock_9 ?_
  refine lv_iload_n hx hb d_N_stock_12 rfl (lv_at hl 2 rfl) ?_
  refine fa_ialdN hx hb hK hP 0 2 0 rfl rfl rfl (by omega) (by decide) d_N_stock_13 ?_
  have ez1 : fl [(wN kC ad rr fc tot ch), (pF kC rr fp)] = fl [(wN kC ad rr fc tot ch), (pFc kC rr fp k), (wF kC (rr k) (fp k)), (pFr kC rr fp k)] := zm [(wN kC ad rr fc tot ch)] [] (g := fun i => (wF kC (rr i) (fp i))) (hk)
  have hP : va_P D cls (fl [(wN kC ad rr fc tot ch), (pFc kC rr fp k), (wF kC (rr k) (fp k)), (pFr kC rr fp k)]) s.heap := by rw [← ez1]; exact hP
  have hD : va_D A (fl [(wN kC ad rr fc tot ch), (pFc kC rr fp k), (wF kC (rr k) (fp k)), (pFr kC rr fp k)]) := by rw [← ez1]; exact hD
  refine lv_istore (lv' := [(5, .int (nI (fc k))), (4, .ref (rr k)), (0, .ref (ad 0)), (1, .int (nI k)), (2, .long (lN v))]) hx hb d_N_stock_14 hl (by decide) rfl (fun ls hl => ?_)
  have L16 : ∀ (n16 : Nat) (i : Nat) (f : Nat → Nat), i < n16 → i ≤ fc k → (∀ j, f j ≤ 100000) → insF v i f = insF v (fc k) (fp k) → ∀ (H : Heap) (locs : List Loc), va_P D cls (fl [(wN kC ad rr fc tot ch), (pFc kC rr fp k), (wF kC (rr k) f), (pFr kC rr fp k)]) H → va_D A (fl [(wN kC ad rr fc tot ch), (pFc kC rr fp k), (wF kC (rr k) f), (pFr kC rr fp k)]) → va_S A s.heap H locs → ∀ (ls : Array Slot), lv_has ls 6 [(0, .ref (ad 0)), (1, .int (nI k)), (2, .long (lN v)), (4, .ref (rr k)), (5, .int (nI i))] → W p l e (headSpec w_N_stock ({ frames := 0, cells := 0, slots := 0, locals := 0 } : Room)).room s m ([.ref (ad 0), .int (nI k), .long (lN v)] : List Value).toArray below meth c H locs 0 0 (MQ below (gQv cls D (tyL kC) (fl [(wN kC ad rr fc tot ch), (pF kC rr fp)]) s.heap.size (fl [(wN kC ad rr (updN fc k (fc k + 1)) tot ch), (pF kC rr (va_up fp k (insF v (fc k) (fp k))))])) ([.ref (ad 0), .int (nI k), .long (lN v)] : List Value).toArray s 0 0 (va_A (fl [(wN kC ad rr fc tot ch), (pF kC rr fp)]) s.heap.size)) (F0 m 16 ls []) := by
    intro n16
    induction n16 with
    | zero =>
      intro i f hm
      exact absurd hm (Nat.not_lt_zero _)
    | succ n16 ih16 =>
      intro i f hm hi hfb hT H locs hP hD hS ls hl
      refine lv_iload hx hb d_N_stock_16 (lv_at hl 4 rfl) ?_
      refine nv_if_le (tgt := 51) hx hb d_N_stock_18 (by decide) (by omega) (fun hi0 => ?_) (fun hi0 => ?_)
      · obtain rfl := hi0
        refine lv_aload hx hb d_N_stock_51 (lv_at hl 3 rfl) ?_
        refine lv_iload hx hb d_N_stock_53 (lv_at hl 4 rfl) ?_
        refine lv_lload_n hx hb d_N_stock_55 rfl (lv_at hl 2 rfl) ?_
        refine fa_lastN hx hb hK hP hD hS 2 0 1 rfl rfl rfl (by omega) (by decide) d_N_stock_56 (fun H locs hP hD hS => ?_)
        have hP : va_P D cls (fl [(wN kC ad rr fc tot ch), (pFc kC rr fp k), (wF kC (rr k) (updN f 0 v)), (pFr kC rr fp k)]) H := hP
        have hD : va_D A (fl [(wN kC ad rr fc tot ch), (pFc kC rr fp k), (wF kC (rr k) (updN f 0 v)), (pFr kC rr fp k)]) := hD
        have ew2 : (updN f 0 v) = (insF v (fc k) (fp k)) := by rw [← hT]; rfl
        have hP : va_P D cls (fl [(wN kC ad rr fc tot ch), (pFc kC rr fp k), (wF kC (rr k) (insF v (fc k) (fp k))), (pFr kC rr fp k)]) H := by rw [← ew2]; exact hP
        have hD : va_D A (fl [(wN kC ad rr fc tot ch), (pFc kC rr fp k), (wF kC (rr k) (insF v (fc k) (fp k))), (pFr kC rr fp k)]) := by rw [← ew2]; exact hD
        refine lv_aload_n hx hb d_N_stock_57 rfl (lv_at hl 0 rfl) ?_
        refine fv_get (ci := 6) (v := .ref (ad 2)) (C := R_N) (T := F_N) (N := 4) hx hb hts (by decide +kernel) hown hK hP 0 0 rfl rfl rfl 1 (by decide) (hts (.fieldLink R_N 16 "PartShelves$RepairPlan" "freeCounts" "[I") (by decide +kernel)) (fun _ h9 => h9) rfl d_N_stock_58 ?_
        refine lv_iload_n hx hb d_N_stock_61 rfl (lv_at hl 1 rfl) ?_
        refine lv_dup2_11 hx hb d_N_stock_62 rfl rfl ?_
        refine fa_ialdN hx hb hK hP 0 2 0 rfl rfl rfl (by omega) (by decide) d_N_stock_63 ?_
        refine lv_iconst (v := nI 1) hx hb d_N_stock_64 (by decide) ?_
        refine nv_iadd hx hb d_N_stock_65 ?_
        refine fa_iastN hx hb hK hP hD hS 0 2 0 rfl rfl rfl (by omega) (by decide) d_N_stock_66 (fun H locs hP hD hS => ?_)
        have hP : va_P D cls (fl [(wN kC ad rr (updN fc k (fc k + 1)) tot ch), (pFc kC rr fp k), (wF kC (rr k) (insF v (fc k) (fp k))), (pFr kC rr fp k)]) H := hP
        have hD : va_D A (fl [(wN kC ad rr (updN fc k (fc k + 1)) tot ch), (pFc kC rr fp k), (wF kC (rr k) (insF v (fc k) (fp k))), (pFr kC rr fp k)]) := hD
        have eu3 : fl [(wN kC ad rr (updN fc k (fc k + 1)) tot ch), (pFc kC rr fp k), (wF kC (rr k) (insF v (fc k) (fp k))), (pFr kC rr fp k)] = fl [(wN kC ad rr (updN fc k (fc k + 1)) tot ch), (pF kC rr (va_up fp k (insF v (fc k) (fp k))))] := uzm [(wN kC ad rr (updN fc k (fc k + 1)) tot ch)] [] (g := fun i => (wF kC (rr i) (fp i))) (g' := fun i => (wF kC (rr i) ((va_up fp k (insF v (fc k) (fp k))) i))) (y := (wF kC (rr k) (insF v (fc k) (fp k)))) (hk) (by simp [va_up, updN, upd]) (fun i hi => by simp only [va_up, updN, upd, if_neg hi])
        have hP : va_P D cls (fl [(wN kC ad rr (updN fc k (fc k + 1)) tot ch), (pF kC rr (va_up fp k (insF v (fc k) (fp k))))]) H := by rw [← eu3]; exact hP
        have hD : va_D A (fl [(wN kC ad rr (updN fc k (fc k + 1)) tot ch), (pF kC rr (va_up fp k (insF v (fc k) (fp k))))]) := by rw [← eu3]; exact hD
        exact W.vret hx hb hr (fun t ht hW => by subst hAe; exact ⟨⟨(), rfl, trivial, by rw [ht]; exact hP, va_K.moved hW.alike hK, hD⟩, hS.F ht⟩) (by subst hAe; exact hS.2.2) d_N_stock_67
      · obtain ⟨j, rfl⟩ : ∃ j, i = j + 1 := ⟨i - 1, by omega⟩
        refine lv_aload hx hb d_N_stock_21 (lv_at hl 3 rfl) ?_
        refine lv_iload hx hb d_N_stock_23 (lv_at hl 4 rfl) ?_
        refine lv_iconst (v := nI 1) hx hb d_N_stock_25 (by decide) ?_
        refine nv_isub hx hb d_N_stock_26 (by omega) ?_
        refine nv_topi (y := nI j) (rfl) ?_
        refine fa_laldN hx hb hK hP 2 0 1 rfl rfl rfl (by omega) (by decide) d_N_stock_27 ?_
        refine lv_lload_n hx hb d_N_stock_28 rfl (lv_at hl 2 rfl) ?_
        refine lc_le (tgt := 51) hx hb d_N_stock_29 d_N_stock_30 (by decide) (fun hc => ?_) (fun hc => ?_)
        · refine lv_aload hx hb d_N_stock_51 (lv_at hl 3 rfl) ?_
          refine lv_iload hx hb d_N_stock_53 (lv_at hl 4 rfl) ?_
          refine lv_lload_n hx hb d_N_stock_55 rfl (lv_at hl 2 rfl) ?_
          refine fa_lastN hx hb hK hP hD hS 2 0 1 rfl rfl rfl (by omega) (by decide) d_N_stock_56 (fun H locs hP hD hS => ?_)
          have hP : va_P D cls (fl [(wN kC ad rr fc tot ch), (pFc kC rr fp k), (wF kC (rr k) (updN f (j + 1) v)), (pFr kC rr fp k)]) H := hP
          have hD : va_D A (fl [(wN kC ad rr fc tot ch), (pFc kC rr fp k), (wF kC (rr k) (updN f (j + 1) v)), (pFr kC rr fp k)]) := hD
          have ew4 : (updN f (j + 1) v) = (insF v (fc k) (fp k)) := by rw [← hT]; exact (if_neg (fun q => absurd ((lN_lt (by omega) (by have := hfb j; omega)).mpr q) (by simpa using hc))).symm
          have hP : va_P D cls (fl [(wN kC ad rr fc tot ch), (pFc kC rr fp k), (wF kC (rr k) (insF v (fc k) (fp k))), (pFr kC rr fp k)]) H := by rw [← ew4]; exact hP
          have hD : va_D A (fl [(wN kC ad rr fc tot ch), (pFc kC rr fp k), (wF kC (rr k) (insF v (fc k) (fp k))), (pFr kC rr fp k)]) := by rw [← ew4]; exact hD
          refine lv_aload_n hx hb d_N_stock_57 rfl (lv_at hl 0 rfl) ?_
          refine fv_get (ci := 6) (v := .ref (ad 2)) (C := R_N) (T := F_N) (N := 4) hx hb hts (by decide +kernel) hown hK hP 0 0 rfl rfl rfl 1 (by decide) (hts (.fieldLink R_N 16 "PartShelves$RepairPlan" "freeCounts" "[I") (by decide +kernel)) (fun _ h9 => h9) rfl d_N_stock_58 ?_
          refine lv_iload_n hx hb d_N_stock_61 rfl (lv_at hl 1 rfl) ?_
          refine lv_dup2_11 hx hb d_N_stock_62 rfl rfl ?_
          refine fa_ialdN hx hb hK hP 0 2 0 rfl rfl rfl (by omega) (by decide) d_N_stock_63 ?_
          refine lv_iconst (v := nI 1) hx hb d_N_stock_64 (by decide) ?_
          refine nv_iadd hx hb d_N_stock_65 ?_
          refine fa_iastN hx hb hK hP hD hS 0 2 0 rfl rfl rfl (by omega) (by decide) d_N_stock_66 (fun H locs hP hD hS => ?_)
          have hP : va_P D cls (fl [(wN kC ad rr (updN fc k (fc k + 1)) tot ch), (pFc kC rr fp k), (wF kC (rr k) (insF v (fc k) (fp k))), (pFr kC rr fp k)]) H := hP
          have hD : va_D A (fl [(wN kC ad rr (updN fc k (fc k + 1)) tot ch), (pFc kC rr fp k), (wF kC (rr k) (insF v (fc k) (fp k))), (pFr kC rr fp k)]) := hD
          have eu5 : fl [(wN kC ad rr (updN fc k (fc k + 1)) tot ch), (pFc kC rr fp k), (wF kC (rr k) (insF v (fc k) (fp k))), (pFr kC rr fp k)] = fl [(wN kC ad rr (updN fc k (fc k + 1)) tot ch), (pF kC rr (va_up fp k (insF v (fc k) (fp k))))] := uzm [(wN kC ad rr (updN fc k (fc k + 1)) tot ch)] [] (g := fun i => (wF kC (rr i) (fp i))) (g' := fun i => (wF kC (rr i) ((va_up fp k (insF v (fc k) (fp k))) i))) (y := (wF kC (rr k) (insF v (fc k) (fp k)))) (hk) (by simp [va_up, updN, upd]) (fun i hi => by simp only [va_up, updN, upd, if_neg hi])
          have hP : va_P D cls (fl [(wN kC ad rr (updN fc k (fc k + 1)) tot ch), (pF kC rr (va_up fp k (insF v (fc k) (fp k))))]) H := by rw [← eu5]; exact hP
          have hD : va_D A (fl [(wN kC ad rr (updN fc k (fc k + 1)) tot ch), (pF kC rr (va_up fp k (insF v (fc k) (fp k))))]) := by rw [← eu5]; exact hD
          exact W.vret hx hb hr (fun t ht hW => by subst hAe; exact ⟨⟨(), rfl, trivial, by rw [ht]; exact hP, va_K.moved hW.alike hK, hD⟩, hS.F ht⟩) (by subst hAe; exact hS.2.2) d_N_stock_67
        · refine lv_aload hx hb d_N_stock_33 (lv_at hl 3 rfl) ?_
          refine lv_iload hx hb d_N_stock_35 (lv_at hl 4 rfl) ?_
          refine lv_aload hx hb d_N_stock_37 (lv_at hl 3 rfl) ?_
          refine lv_iload hx hb d_N_stock_39 (lv_at hl 4 rfl) ?_
          refine lv_iconst (v := nI 1) hx hb d_N_stock_41 (by decide) ?_
          refine nv_isub hx hb d_N_stock_42 (by omega) ?_
          refine nv_topi (y := nI j) (rfl) ?_
          refine fa_laldN hx hb hK hP 2 0 1 rfl rfl rfl (by omega) (by decide) d_N_stock_43 ?_
          refine fa_lastN hx hb hK hP hD hS 2 0 1 rfl rfl rfl (by omega) (by decide) d_N_stock_44 (fun H locs hP hD hS => ?_)
          have hP : va_P D cls (fl [(wN kC ad rr fc tot ch), (pFc kC rr fp k), (wF kC (rr k) (updN f (j + 1) (f j))), (pFr kC rr fp k)]) H := hP
          have hD : va_D A (fl [(wN kC ad rr fc tot ch), (pFc kC rr fp k), (wF kC (rr k) (updN f (j + 1) (f j))), (pFr kC rr fp k)]) := hD
          refine lv_iinc (v := nI j) (lv' := [(5, .int (nI j)), (0, .ref (ad 0)), (1, .int (nI k)), (2, .long (lN v)), (4, .ref (rr k))]) hx hb d_N_stock_45 hl (k := 4) rfl ((m1_i (Nat.succ_pos j)).trans rfl) (by decide) rfl (fun ls hl => ?_)
          refine lv_goto (tgt := 16) hx hb d_N_stock_48 (by decide) ?_
          have hc : v < f j := (lN_lt (by omega) (by have := hfb j; omega)).mp (by simpa using hc)
          exact ih16 j (updN f (j + 1) (f j)) (by omega) (by omega) (fun i => by simp only [updN]; split; exact hfb j; exact hfb i) (by rw [← hT]; exact (if_pos hc).symm) _ _ hP hD hS ls (lv_sub hl [1, 2, 3, 4, 0] rfl)
  exact L16 _ (fc k) (fp k) (Nat.lt_succ_self _) (Nat.le_refl _) (hfp) (rfl) _ _ hP hD hS ls (lv_sub hl [2, 3, 4, 1, 0] rfl)

abbrev b_N_costOfSet : ByteArray := prog_7_method_5_code
def y_N_costOfSet : MethodName := ⟨"PartShelves$RepairPlan", "costOfSet", "(ILjava/util/ArrayList;)J"⟩
theorem d_N_costOfSet_0 : decode b_N_costOfSet 0 = .ok (.lconst 0, 1) := by decide +kernel
theorem d_N_costOfSet_1 : decode b_N_costOfSet 1 = .ok (.lstore_n 3, 1) := by decide +kernel
theorem d_N_costOfSet_2 : decode b_N_costOfSet 2 = .ok (.iconst 0, 1) := by decide +kernel
theorem d_N_costOfSet_3 : decode b_N_costOfSet 3 = .ok (.istore 5, 2) := by decide +kernel
theorem d_N_costOfSet_5 : decode b_N_costOfSet 5 = .ok (.iload 5, 2) := by decide +kernel
theorem d_N_costOfSet_7 : decode b_N_costOfSet 7 = .ok (.bipush 6, 2) := by decide +kernel
theorem d_N_costOfSet_9 : decode b_N_costOfSet 9 = .ok (.if_icmp .ge 63, 3) := by decide +kernel
theorem d_N_costOfSet_12 : decode b_N_costOfSet 12 = .ok (.iload 5, 2) := by decide +kernel
theorem d_N_costOfSet_14 : decode b_N_costOfSet 14 = .ok (.iload_n 1, 1) := by decide +kernel
theorem d_N_costOfSet_15 : decode b_N_costOfSet 15 = .ok (.aload_n 2, 1) := by decide +kernel
theorem d_N_costOfSet_16 : decode b_N_costOfSet 16 = .ok (.invokestatic 46, 3) := by decide +kernel
theorem d_N_costOfSet_19 : decode b_N_costOfSet 19 = .ok (.istore 6, 2) := by decide +kernel
theorem d_N_costOfSet_21 : decode b_N_costOfSet 21 = .ok (.iload 6, 2) := by decide +kernel
theorem d_N_costOfSet_23 : decode b_N_costOfSet 23 = .ok (.aload_n 0, 1) := by decide +kernel
theorem d_N_costOfSet_24 : decode b_N_costOfSet 24 = .ok (.getfield 16, 3) := by decide +kernel
theorem d_N_costOfSet_27 : decode b_N_costOfSet 27 = .ok (.iload 5, 2) := by decide +kernel
theorem d_N_costOfSet_29 : decode b_N_costOfSet 29 = .ok (.iaload, 1) := by decide +kernel
theorem d_N_costOfSet_30 : decode b_N_costOfSet 30 = .ok (.if_icmp .le 7, 3) := by decide +kernel
theorem d_N_costOfSet_33 : decode b_N_costOfSet 33 = .ok (.ldc2_w 20, 3) := by decide +kernel
theorem d_N_costOfSet_36 : decode b_N_costOfSet 36 = .ok (.lreturn, 1) := by decide +kernel
theorem d_N_costOfSet_37 : decode b_N_costOfSet 37 = .ok (.iconst 0, 1) := by decide +kernel
theorem d_N_costOfSet_38 : decode b_N_costOfSet 38 = .ok (.istore 7, 2) := by decide +kernel
theorem d_N_costOfSet_40 : decode b_N_costOfSet 40 = .ok (.iload 7, 2) := by decide +kernel
theorem d_N_costOfSet_42 : decode b_N_costOfSet 42 = .ok (.iload 6, 2) := by decide +kernel
theorem d_N_costOfSet_44 : decode b_N_costOfSet 44 = .ok (.if_icmp .ge 22, 3) := by decide +kernel
theorem d_N_costOfSet_47 : decode b_N_costOfSet 47 = .ok (.lload_n 3, 1) := by decide +kernel
theorem d_N_costOfSet_48 : decode b_N_costOfSet 48 = .ok (.aload_n 0, 1) := by decide +kernel
theorem d_N_costOfSet_49 : decode b_N_costOfSet 49 = .ok (.getfield 11, 3) := by decide +kernel
theorem d_N_costOfSet_52 : decode b_N_costOfSet 52 = .ok (.iload 5, 2) := by decide +kernel
theorem d_N_costOfSet_54 : decode b_N_costOfSet 54 = .ok (.aaload, 1) := by decide +kernel
theorem d_N_costOfSet_55 : decode b_N_costOfSet 55 = .ok (.iload 7, 2) := by decide +kernel
theorem d_N_costOfSet_57 : decode b_N_costOfSet 57 = .ok (.laload, 1) := by decide +kernel
theorem d_N_costOfSet_58 : decode b_N_costOfSet 58 = .ok (.ladd, 1) := by decide +kernel
theorem d_N_costOfSet_59 : decode b_N_costOfSet 59 = .ok (.lstore_n 3, 1) := by decide +kernel
theorem d_N_costOfSet_60 : decode b_N_costOfSet 60 = .ok (.iinc 7 1, 3) := by decide +kernel
theorem d_N_costOfSet_63 : decode b_N_costOfSet 63 = .ok (.goto (-23), 3) := by decide +kernel
theorem d_N_costOfSet_66 : decode b_N_costOfSet 66 = .ok (.iinc 5 1, 3) := by decide +kernel
theorem d_N_costOfSet_69 : decode b_N_costOfSet 69 = .ok (.goto (-64), 3) := by decide +kernel
theorem d_N_costOfSet_72 : decode b_N_costOfSet 72 = .ok (.lload_n 3, 1) := by decide +kernel
theorem d_N_costOfSet_73 : decode b_N_costOfSet 73 = .ok (.lreturn, 1) := by decide +kernel
def w_N_costOfSet : List Cond := .code y_N_costOfSet b_N_costOfSet 8 (some .long) :: ([.methodLink "PartShelves$RepairPlan" 46 ⟨"PartShelves$RepairPlan", "neededOf", "(IILjava/util/ArrayList;)I"⟩, .static ⟨"PartShelves$RepairPlan", "neededOf", "(IILjava/util/ArrayList;)I"⟩, .initialized "PartShelves$RepairPlan", .code ⟨"PartShelves$RepairPlan", "neededOf", "(IILjava/util/ArrayList;)I"⟩ prog_7_method_6_code 5 (some .int), .methodLink "PartShelves$RepairPlan" 30 ⟨"java/util/ArrayList", "size", "()I"⟩, .instanceMethod ⟨"java/util/ArrayList", "size", "()I"⟩, .selects "java/util/ArrayList" ⟨"java/util/ArrayList", "size", "()I"⟩ ⟨"java/util/ArrayList", "size", "()I"⟩, .initialized "java/util/ArrayList", .code ⟨"java/util/ArrayList", "size", "()I"⟩ prog_18_method_8_code 1 (some .int), .fieldLink "java/util/ArrayList" 48 "java/util/ArrayList" "size" "I", .sameField "java/util/ArrayList" "java/util/AbstractList" "modCount" "I", .static ⟨"PartShelves", "hasMember", "(II)Z"⟩, .initialized "PartShelves", .code ⟨"PartShelves", "hasMember", "(II)Z"⟩ prog_1_method_32_code 2 (some .boolean), .methodLink "PartShelves$RepairPlan" 54 ⟨"java/util/ArrayList", "get", "(I)Ljava/lang/Object;"⟩, .instanceMethod ⟨"java/util/ArrayList", "get", "(I)Ljava/lang/Object;"⟩, .selects "java/util/ArrayList" ⟨"java/util/ArrayList", "get", "(I)Ljava/lang/Object;"⟩ ⟨"java/util/ArrayList", "get", "(I)Ljava/lang/Object;"⟩, .code ⟨"java/util/ArrayList", "get", "(I)Ljava/lang/Object;"⟩ prog_18_method_20_code 2 (some (.object "java/lang/Object")), .methodLink "java/util/ArrayList" 118 ⟨"java/util/Objects", "checkIndex", "(II)I"⟩, .static ⟨"java/util/Objects", "checkIndex", "(II)I"⟩, .initialized "java/util/Objects", .code ⟨"java/util/Objects", "checkIndex", "(II)I"⟩ prog_22_method_17_code 2 (some .int), .methodLink "java/util/Objects" 105 ⟨"jdk/internal/util/Preconditions", "checkIndex", "(IILjava/util/function/BiFunction;)I"⟩, .static ⟨"jdk/internal/util/Preconditions", "checkIndex", "(IILjava/util/function/BiFunction;)I"⟩, .initialized "jdk/internal/util/Preconditions", .code ⟨"jdk/internal/util/Preconditions", "checkIndex", "(IILjava/util/function/BiFunction;)I"⟩ prog_26_method_11_code 3 (some .int), .methodLink "java/util/ArrayList" 123 ⟨"java/util/ArrayList", "elementData", "(I)Ljava/lang/Object;"⟩, .instanceMethod ⟨"java/util/ArrayList", "elementData", "(I)Ljava/lang/Object;"⟩, .selects "java/util/ArrayList" ⟨"java/util/ArrayList", "elementData", "(I)Ljava/lang/Object;"⟩ ⟨"java/util/ArrayList", "elementData", "(I)Ljava/lang/Object;"⟩, .code ⟨"java/util/ArrayList", "elementData", "(I)Ljava/lang/Object;"⟩ prog_18_method_18_code 2 (some (.object "java/lang/Object")), .fieldLink "java/util/ArrayList" 9 "java/util/ArrayList" "elementData" "[Ljava/lang/Object;", .classLink "PartShelves$RepairPlan" 58 "PartShelves$Job", .fieldLink "PartShelves$RepairPlan" 60 "PartShelves$Job" "needs" "[I", .fieldLink "PartShelves$RepairPlan" 16 "PartShelves$RepairPlan" "freeCounts" "[I", .constantLong "PartShelves$RepairPlan" 20 (-1), .fieldLink "PartShelves$RepairPlan" 11 "PartShelves$RepairPlan" "freePrices" "[[J"] ++ u_ws R_L F_L 3 ++ u_ws R_J F_J 1 ++ u_ws R_N F_N 4)
set_option maxRecDepth 20000 in
theorem g_N_cs_need : GoodIn w_N_costOfSet (wsS R_N 46 y_N_neededOf w_N_neededOf) := goodIn_p _ [4, 9, 14, 18, 22, 26, 30] rfl (by decide +kernel)
set_option maxHeartbeats 4000000 in
set_option maxRecDepth 100000 in
theorem c_N_cs (l : Launch) (D : va_G) (kC : Nat → ClassId) (ad : Nat → Nat) (rr : Nat → Nat) (fc : Nat → Nat) (tot : Int64) (ch : Nat) (fp : Nat → Nat → Nat) (eD : Nat) (h : Nat) (md : Int32) (x : Nat) (n : Nat) (ja : Nat → Nat) (jx : Nat → Nat) (jne : Nat → Nat → Nat) (z : Nat) (hz64 : z < 64) (hn6 : n ≤ 6) (hne : ∀ j k, jne j k ≤ 3) (hfc : ∀ k, fc k ≤ 8) (hfp : ∀ k i, fp k i ≤ 100000) : Met l y_N_costOfSet w_N_costOfSet ({ frames := 4, cells := 0, slots := 0, locals := 88 } : Room) (gPrz cls D (tyL kC) [.ref (ad 0), .int (nI z), .ref h] (fl [(wN kC ad rr fc tot ch), (pF kC rr fp), (wLq kC eD h md x n ja), (pJ kC ja jx jne n)])) (vp_Sl (fun r => r = encI (cjM (kcC fc fp jne z n) 6))) 0 0 (fun _ => False) := by
  refine Met.ofW (cc := b_N_costOfSet) (maxL := 8) (ret := (some .long)) (by decide) rfl ?_
  intro p e s m args below meth c s₁ B hml hv
  obtain ⟨rfl, hP, hK, hzw⟩ := hv
  have hx := B.exec
  have hb := B.bytes
  have hr := B.returns
  have hts := atoms_spec (ws := w_N_costOfSet) B.pre
  have hown : s.vm.findClass R_N = some m.cls := findClass_of_methodNamed B.named
  have hlocks := B.notSynchronized
  have hl := lv_entry ([.ref (ad 0), .int (nI z), .ref h]) (n := 8) (Nat.le_of_ble_eq_true rfl)
  rw [lg_entry_eq]
  generalize (lg_sl ([.ref (ad 0), .int (nI z), .ref h]) ++ List.replicate (8 - (lg_sl ([.ref (ad 0), .int (nI z), .ref h])).length) Slot.unset).toArray = ls at hl ⊢
  have hl : lv_has ls 8 [(0, .ref (ad 0)), (1, .int (nI z)), (2, .ref h)] := hl
  refine lv_lconst (v := lN 0) hx hb d_N_costOfSet_0 (by decide) ?_
  refine lv_lstore_n (lv' := [(3, .long (lN 0)), (0, .ref (ad 0)), (1, .int (nI z)), (2, .ref h)]) hx hb d_N_costOfSet_1 rfl hl (by decide) rfl (fun ls hl => ?_)
  refine lv_iconst (v := nI 0) hx hb d_N_costOfSet_2 (by decide) ?_
  refine lv_istore (lv' := [(5, .int (nI 0)), (3, .long (lN 0)), (0, .ref (ad 0)), (1, .int (nI z)), (2, .ref h)]) hx hb d_N_costOfSet_3 hl (by decide) rfl (fun ls hl => ?_)
  have L5 : ∀ (n5 : Nat) (k : Nat) (c0 : Nat), 6 - k < n5 → k ≤ 6 → cjM (kcC fc fp jne z n) k = some c0 → ∀ (ls : Array Slot), lv_has ls 8 [(0, .ref (ad 0)), (1, .int (nI z)), (2, .ref h), (3, .long (lN c0)), (5, .int (nI k))] → W p l e (headSpec w_N_costOfSet ({ frames := 4, cells := 0, slots := 0, locals := 88 } : Room)).room s m ([.ref (ad 0), .int (nI z), .ref h] : List Value).toArray below meth c s.heap [] 0 0 (MQ below (vp_Sl (fun r => r = encI (cjM (kcC fc fp jne z n) 6))) ([.ref (ad 0), .int (nI z), .ref h] : List Value).toArray s 0 0 (fun _ => False)) (F0 m 5 ls []) := by
    intro n5
    induction n5 with
    | zero =>
      intro k c0 hm
      exact absurd hm (Nat.not_lt_zero _)
    | succ n5 ih5 =>
      intro k c0 hm hk6 hcj ls hl
      refine lv_iload hx hb d_N_costOfSet_5 (lv_at hl 4 rfl) ?_
      refine lv_bipush (v := nI 6) hx hb d_N_costOfSet_7 (by decide +kernel) ?_
      refine nv_icmp_ge (tgt := 72) hx hb d_N_costOfSet_9 (by decide) (by omega) (by omega) (fun hk => ?_) (fun hk => ?_)
      · obtain rfl : k = 6 := by omega
        refine lv_lload_n hx hb d_N_costOfSet_72 rfl (lv_at hl 3 rfl) ?_
        exact W.lret (v := lN c0) hx hb hr (fun t ht hW => ⟨_, rfl, by rw [hcj]; rfl, ht⟩) t_nil d_N_costOfSet_73
      · refine lv_iload hx hb d_N_costOfSet_12 (lv_at hl 4 rfl) ?_
        refine lv_iload_n hx hb d_N_costOfSet_14 rfl (lv_at hl 1 rfl) ?_
        refine lv_aload_n hx hb d_N_costOfSet_15 rfl (lv_at hl 2 rfl) ?_
        refine r_calli (W.runS (As := [.int (nI k), .int (nI z), .ref h]) (rest := []) ⟨hx, hb, hml, hown, hts⟩ (c_N_need l D kC eD h md x n ja jx jne k z (hk) (hz64) (hn6) (hne)) (cwS 3 hts g_N_cs_need rfl rfl rfl (by decide +kernel) ⟨Nat.le_of_ble_eq_true rfl, Nat.le_of_ble_eq_true rfl⟩) (rz_preS hzw hK (fl_sub hP [2, 3] rfl)) rfl rfl hl.1 rfl (lv_room (Nat.le_of_ble_eq_true rfl)) d_N_costOfSet_16 ⟨Nat.le_of_ble_eq_true rfl, Nat.le_of_ble_eq_true rfl⟩) ?_
        refine lv_istore (lv' := [(6, .int (nI (ndC jne z k n))), (0, .ref (ad 0)), (1, .int (nI z)), (2, .ref h), (3, .long (lN c0)), (5, .int (nI k))]) hx hb d_N_costOfSet_19 hl (by decide) rfl (fun ls hl => ?_)
        have hnk := ndC_le (z := z) (k := k) hne n
        have hfk := hfc k
        refine lv_iload hx hb d_N_costOfSet_21 (lv_at hl 0 rfl) ?_
        refine lv_aload_n hx hb d_N_costOfSet_23 rfl (lv_at hl 1 rfl) ?_
        refine fv_get (ci := 6) (v := .ref (ad 2)) (C := R_N) (T := F_N) (N := 4) hx hb hts (by decide +kernel) hown hK hP 0 0 rfl rfl rfl 1 (by decide) (hts (.fieldLink R_N 16 "PartShelves$RepairPlan" "freeCounts" "[I") (by decide +kernel)) (fun _ h9 => h9) rfl d_N_costOfSet_24 ?_
        refine lv_iload hx hb d_N_costOfSet_27 (lv_at hl 5 rfl) ?_
        refine fa_ialdN hx hb hK hP 0 2 0 rfl rfl rfl (by omega) (by decide) d_N_costOfSet_29 ?_
        refine nv_icmp_le (tgt := 37) hx hb d_N_costOfSet_30 (by decide) (by omega) (by omega) (fun hq => ?_) (fun hq => ?_)
        · refine lv_iconst (v := nI 0) hx hb d_N_costOfSet_37 (by decide) ?_
          refine lv_istore (lv' := [(7, .int (nI 0)), (6, .int (nI (ndC jne z k n))), (0, .ref (ad 0)), (1, .int (nI z)), (2, .ref h), (3, .long (lN c0)), (5, .int (nI k))]) hx hb d_N_costOfSet_38 hl (by decide) rfl (fun ls hl => ?_)
          have L40 : ∀ (n40 : Nat) (i : Nat), ndC jne z k n - i < n40 → i ≤ ndC jne z k n → ∀ (ls : Array Slot), lv_has ls 8 [(0, .ref (ad 0)), (1, .int (nI z)), (2, .ref h), (3, .long (lN (c0 + psm (fp k) i))), (5, .int (nI k)), (6, .int (nI (ndC jne z k n))), (7, .int (nI i))] → W p l e (headSpec w_N_costOfSet ({ frames := 4, cells := 0, slots := 0, locals := 88 } : Room)).room s m ([.ref (ad 0), .int (nI z), .ref h] : List Value).toArray below meth c s.heap [] 0 0 (MQ below (vp_Sl (fun r => r = encI (cjM (kcC fc fp jne z n) 6))) ([.ref (ad 0), .int (nI z), .ref h] : List Value).toArray s 0 0 (fun _ => False)) (F0 m 40 ls []) := by
            intro n40
            induction n40 with
            | zero =>
              intro i hm
              exact absurd hm (Nat.not_lt_zero _)
            | succ n40 ih40 =>
              intro i hm hi ls hl
              refine lv_iload hx hb d_N_costOfSet_40 (lv_at hl 6 rfl) ?_
              refine lv_iload hx hb d_N_costOfSet_42 (lv_at hl 5 rfl) ?_
              refine nv_icmp_ge (tgt := 66) hx hb d_N_costOfSet_44 (by decide) (by omega) (by omega) (fun hi => ?_) (fun hi => ?_)
              · obtain rfl : i = ndC jne z k n := by omega
                refine lv_iinc (v := nI (k + 1)) (lv' := [(5, .int (nI (k + 1))), (0, .ref (ad 0)), (1, .int (nI z)), (2, .ref h), (3, .long (lN (c0 + psm (fp k) (ndC jne z k n)))), (6, .int (nI (ndC jne z k n))), (7, .int (nI (ndC jne z k n)))]) hx hb d_N_costOfSet_66 hl (k := 4) rfl (nI_1 k) (by decide) rfl (fun ls hl => ?_)
                refine lv_goto (tgt := 5) hx hb d_N_costOfSet_69 (by decide) ?_
                exact ih5 (k + 1) (c0 + psm (fp k) (ndC jne z k n)) (by omega) (hk) (by simp only [cjM, hcj, kcC]; rw [if_pos hq]) ls (lv_sub hl [1, 2, 3, 4, 0] rfl)
              · refine lv_lload_n hx hb d_N_costOfSet_47 rfl (lv_at hl 3 rfl) ?_
                refine lv_aload_n hx hb d_N_costOfSet_48 rfl (lv_at hl 0 rfl) ?_
                refine fv_get (ci := 6) (v := .ref (ad 1)) (C := R_N) (T := F_N) (N := 4) hx hb hts (by decide +kernel) hown hK hP 0 0 rfl rfl rfl 0 (by decide) (hts (.fieldLink R_N 11 "PartShelves$RepairPlan" "freePrices" "[[J") (by decide +kernel)) (fun _ h9 => h9) rfl d_N_costOfSet_49 ?_
                refine lv_iload hx hb d_N_costOfSet_52 (lv_at hl 4 rfl) ?_
                refine fa_aldA hx hb hK hP 0 1 4 rfl rfl rfl (hk) (by decide) d_N_costOfSet_54 ?_
                refine W.eq (g2 := F0 m 55 ls [.ref (rr k), .long (lN (c0 + psm (fp k) i))]) (by rw [rfO_at (hk)]; rfl) ?_
                refine lv_iload hx hb d_N_costOfSet_55 (lv_at hl 6 rfl) ?_
                have hPez1 := hP
                have ez1 : fl [(wN kC ad rr fc tot ch), (pF kC rr fp), (wLq kC eD h md x n ja), (pJ kC ja jx jne n)] = fl [(wN kC ad rr fc tot ch), (pFc kC rr fp k), (wF kC (rr k) (fp k)), (pFr kC rr fp k), (wLq kC eD h md x n ja), (pJ kC ja jx jne n)] := zm [(wN kC ad rr fc tot ch)] [(wLq kC eD h md x n ja), (pJ kC ja jx jne n)] (g := fun i => (wF kC (rr i) (fp i))) (hk)
                have hP : va_P D cls (fl [(wN kC ad rr fc tot ch), (pFc kC rr fp k), (wF kC (rr k) (fp k)), (pFr kC rr fp k), (wLq kC eD h md x n ja), (pJ kC ja jx jne n)]) s.heap := by rw [← ez1]; exact hP
                refine fa_laldN hx hb hK hP 2 0 1 rfl rfl rfl (by omega) (by decide) d_N_costOfSet_57 ?_
                have hP : va_P D cls (fl [(wN kC ad rr fc tot ch), (pF kC rr fp), (wLq kC eD h md x n ja), (pJ kC ja jx jne n)]) s.heap := hPez1
                refine nv_ladd hx hb d_N_costOfSet_58 ?_
                refine lv_lstore_n (lv' := [(3, .long (lN (c0 + psm (fp k) i + (fp k) i))), (0, .ref (ad 0)), (1, .int (nI z)), (2, .ref h), (5, .int (nI k)), (6, .int (nI (ndC jne z k n))), (7, .int (nI i))]) hx hb d_N_costOfSet_59 rfl hl (by decide) rfl (fun ls hl => ?_)
                have el2 : lN (c0 + psm (fp k) i + (fp k) i) = lN (c0 + psm (fp k) (i + 1)) := congrArg lN (show c0 + psm (fp k) i + fp k i = c0 + (psm (fp k) i + fp k i) by omega)
                have hl : lv_has ls 8 [(3, .long (lN (c0 + psm (fp k) (i + 1)))), (0, .ref (ad 0)), (1, .int (nI z)), (2, .ref h), (5, .int (nI k)), (6, .int (nI (ndC jne z k n))), (7, .int (nI i))] := by rw [← el2]; exact hl
                refine lv_iinc (v := nI (i + 1)) (lv' := [(7, .int (nI (i + 1))), (3, .long (lN (c0 + psm (fp k) (i + 1)))), (0, .ref (ad 0)), (1, .int (nI z)), (2, .ref h), (5, .int (nI k)), (6, .int (nI (ndC jne z k n)))]) hx hb d_N_costOfSet_60 hl (k := 6) rfl (nI_1 i) (by decide) rfl (fun ls hl => ?_)
                refine lv_goto (tgt := 40) hx hb d_N_costOfSet_63 (by decide) ?_
                exact ih40 (i + 1) (by omega) (hi) ls (lv_sub hl [2, 3, 4, 1, 5, 6, 0] rfl)
          exact L40 _ 0 (Nat.lt_succ_self _) (Nat.zero_le _) ls (lv_sub hl [2, 3, 4, 5, 6, 1, 0] rfl)
        · refine lv_ldc2 (v := (-1)) hx hb hown (hts (.constantLong R_N 20 (-1)) (by decide +kernel)) d_N_costOfSet_33 ?_
          exact W.lret (v := (-1)) hx hb hr (fun t ht hW => ⟨_, rfl, by obtain ⟨d, hd⟩ : ∃ d, 6 = k + 1 + d := ⟨6 - (k + 1), by omega⟩; rw [hd, cjM_none (show cjM (kcC fc fp jne z n) (k + 1) = none by simp only [cjM, hcj, kcC]; rw [if_neg (Nat.not_le.mpr hq)])]; rfl, ht⟩) t_nil d_N_costOfSet_36
  exact L5 _ 0 0 (Nat.lt_succ_self _) (by decide) (rfl) ls (lv_sub hl [2, 3, 4, 1, 0] rfl)

abbrev b_N_choose : ByteArray := prog_7_method_4_code
def y_N_choose : MethodName := ⟨"PartShelves$RepairPlan", "choose", "(Ljava/util/ArrayList;)I"⟩
theorem d_N_choose_0 : decode b_N_choose 0 = .ok (.aload_n 0, 1) := by decide +kernel
theorem d_N_choose_1 : decode b_N_choose 1 = .ok (.iconst 0, 1) := by decide +kernel
theorem d_N_choose_2 : decode b_N_choose 2 = .ok (.putfield 26, 3) := by decide +kernel
theorem d_N_choose_5 : decode b_N_choose 5 = .ok (.aload_n 0, 1) := by decide +kernel
theorem d_N_choose_6 : decode b_N_choose 6 = .ok (.lconst 0, 1) := by decide +kernel
theorem d_N_choose_7 : decode b_N_choose 7 = .ok (.putfield 22, 3) := by decide +kernel
theorem d_N_choose_10 : decode b_N_choose 10 = .ok (.iconst 1, 1) := by decide +kernel
theorem d_N_choose_11 : decode b_N_choose 11 = .ok (.aload_n 1, 1) := by decide +kernel
theorem d_N_choose_12 : decode b_N_choose 12 = .ok (.invokevirtual 30, 3) := by decide +kernel
theorem d_N_choose_15 : decode b_N_choose 15 = .ok (.ishl, 1) := by decide +kernel
theorem d_N_choose_16 : decode b_N_choose 16 = .ok (.istore_n 2, 1) := by decide +kernel
theorem d_N_choose_17 : decode b_N_choose 17 = .ok (.iconst 1, 1) := by decide +kernel
theorem d_N_choose_18 : decode b_N_choose 18 = .ok (.istore_n 3, 1) := by decide +kernel
theorem d_N_choose_19 : decode b_N_choose 19 = .ok (.iload_n 3, 1) := by decide +kernel
theorem d_N_choose_20 : decode b_N_choose 20 = .ok (.iload_n 2, 1) := by decide +kernel
theorem d_N_choose_21 : decode b_N_choose 21 = .ok (.if_icmp .ge 77, 3) := by decide +kernel
theorem d_N_choose_24 : decode b_N_choose 24 = .ok (.iload_n 3, 1) := by decide +kernel
theorem d_N_choose_25 : decode b_N_choose 25 = .ok (.invokestatic 36, 3) := by decide +kernel
theorem d_N_choose_28 : decode b_N_choose 28 = .ok (.aload_n 0, 1) := by decide +kernel
theorem d_N_choose_29 : decode b_N_choose 29 = .ok (.getfield 26, 3) := by decide +kernel
theorem d_N_choose_32 : decode b_N_choose 32 = .ok (.invokestatic 36, 3) := by decide +kernel
theorem d_N_choose_35 : decode b_N_choose 35 = .ok (.isub, 1) := by decide +kernel
theorem d_N_choose_36 : decode b_N_choose 36 = .ok (.istore 4, 2) := by decide +kernel
theorem d_N_choose_38 : decode b_N_choose 38 = .ok (.iload 4, 2) := by decide +kernel
theorem d_N_choose_40 : decode b_N_choose 40 = .ok (.ifCond .ge 9, 3) := by decide +kernel
theorem d_N_choose_43 : decode b_N_choose 43 = .ok (.ldc2_w 20, 3) := by decide +kernel
theorem d_N_choose_46 : decode b_N_choose 46 = .ok (.goto 9, 3) := by decide +kernel
theorem d_N_choose_49 : decode b_N_choose 49 = .ok (.aload_n 0, 1) := by decide +kernel
theorem d_N_choose_50 : decode b_N_choose 50 = .ok (.iload_n 3, 1) := by decide +kernel
theorem d_N_choose_51 : decode b_N_choose 51 = .ok (.aload_n 1, 1) := by decide +kernel
theorem d_N_choose_52 : decode b_N_choose 52 = .ok (.invokevirtual 42, 3) := by decide +kernel
theorem d_N_choose_55 : decode b_N_choose 55 = .ok (.lstore 5, 2) := by decide +kernel
theorem d_N_choose_57 : decode b_N_choose 57 = .ok (.lload 5, 2) := by decide +kernel
theorem d_N_choose_59 : decode b_N_choose 59 = .ok (.ldc2_w 20, 3) := by decide +kernel
theorem d_N_choose_62 : decode b_N_choose 62 = .ok (.lcmp, 1) := by decide +kernel
theorem d_N_choose_63 : decode b_N_choose 63 = .ok (.ifCond .eq 29, 3) := by decide +kernel
theorem d_N_choose_66 : decode b_N_choose 66 = .ok (.iload 4, 2) := by decide +kernel
theorem d_N_choose_68 : decode b_N_choose 68 = .ok (.ifCond .gt 13, 3) := by decide +kernel
theorem d_N_choose_71 : decode b_N_choose 71 = .ok (.lload 5, 2) := by decide +kernel
theorem d_N_choose_73 : decode b_N_choose 73 = .ok (.aload_n 0, 1) := by decide +kernel
theorem d_N_choose_74 : decode b_N_choose 74 = .ok (.getfield 22, 3) := by decide +kernel
theorem d_N_choose_77 : decode b_N_choose 77 = .ok (.lcmp, 1) := by decide +kernel
theorem d_N_choose_78 : decode b_N_choose 78 = .ok (.ifCond .ge 14, 3) := by decide +kernel
theorem d_N_choose_81 : decode b_N_choose 81 = .ok (.aload_n 0, 1) := by decide +kernel
theorem d_N_choose_82 : decode b_N_choose 82 = .ok (.iload_n 3, 1) := by decide +kernel
theorem d_N_choose_83 : decode b_N_choose 83 = .ok (.putfield 26, 3) := by decide +kernel
theorem d_N_choose_86 : decode b_N_choose 86 = .ok (.aload_n 0, 1) := by decide +kernel
theorem d_N_choose_87 : decode b_N_choose 87 = .ok (.lload 5, 2) := by decide +kernel
theorem d_N_choose_89 : decode b_N_choose 89 = .ok (.putfield 22, 3) := by decide +kernel
theorem d_N_choose_92 : decode b_N_choose 92 = .ok (.iinc 3 1, 3) := by decide +kernel
theorem d_N_choose_95 : decode b_N_choose 95 = .ok (.goto (-76), 3) := by decide +kernel
theorem d_N_choose_98 : decode b_N_choose 98 = .ok (.aload_n 0, 1) := by decide +kernel
theorem d_N_choose_99 : decode b_N_choose 99 = .ok (.getfield 26, 3) := by decide +kernel
theorem d_N_choose_102 : decode b_N_choose 102 = .ok (.invokestatic 36, 3) := by decide +kernel
theorem d_N_choose_105 : decode b_N_choose 105 = .ok (.ireturn, 1) := by decide +kernel
def w_N_choose : List Cond := .code y_N_choose b_N_choose 7 (some .int) :: ([.fieldLink "PartShelves$RepairPlan" 26 "PartShelves$RepairPlan" "chosen" "I", .fieldLink "PartShelves$RepairPlan" 22 "PartShelves$RepairPlan" "total" "J", .methodLink "PartShelves$RepairPlan" 30 ⟨"java/util/ArrayList", "size", "()I"⟩, .instanceMethod ⟨"java/util/ArrayList", "size", "()I"⟩, .selects "java/util/ArrayList" ⟨"java/util/ArrayList", "size", "()I"⟩ ⟨"java/util/ArrayList", "size", "()I"⟩, .initialized "java/util/ArrayList", .code ⟨"java/util/ArrayList", "size", "()I"⟩ prog_18_method_8_code 1 (some .int), .fieldLink "java/util/ArrayList" 48 "java/util/ArrayList" "size" "I", .sameField "java/util/ArrayList" "java/util/AbstractList" "modCount" "I", .methodLink "PartShelves$RepairPlan" 36 ⟨"java/lang/Integer", "bitCount", "(I)I"⟩, .static ⟨"java/lang/Integer", "bitCount", "(I)I"⟩, .initialized "java/lang/Integer", .code ⟨"java/lang/Integer", "bitCount", "(I)I"⟩ prog_12_method_49_code 1 (some .int), .constant "java/lang/Integer" 265 1431655765, .constant "java/lang/Integer" 266 858993459, .constant "java/lang/Integer" 267 252645135, .constantLong "PartShelves$RepairPlan" 20 (-1), .methodLink "PartShelves$RepairPlan" 42 ⟨"PartShelves$RepairPlan", "costOfSet", "(ILjava/util/ArrayList;)J"⟩, .instanceMethod ⟨"PartShelves$RepairPlan", "costOfSet", "(ILjava/util/ArrayList;)J"⟩, .selects "PartShelves$RepairPlan" ⟨"PartShelves$RepairPlan", "costOfSet", "(ILjava/util/ArrayList;)J"⟩ ⟨"PartShelves$RepairPlan", "costOfSet", "(ILjava/util/ArrayList;)J"⟩, .initialized "PartShelves$RepairPlan", .code ⟨"PartShelves$RepairPlan", "costOfSet", "(ILjava/util/ArrayList;)J"⟩ prog_7_method_5_code 8 (some .long), .methodLink "PartShelves$RepairPlan" 46 ⟨"PartShelves$RepairPlan", "neededOf", "(IILjava/util/ArrayList;)I"⟩, .static ⟨"PartShelves$RepairPlan", "neededOf", "(IILjava/util/ArrayList;)I"⟩, .code ⟨"PartShelves$RepairPlan", "neededOf", "(IILjava/util/ArrayList;)I"⟩ prog_7_method_6_code 5 (some .int), .static ⟨"PartShelves", "hasMember", "(II)Z"⟩, .initialized "PartShelves", .code ⟨"PartShelves", "hasMember", "(II)Z"⟩ prog_1_method_32_code 2 (some .boolean), .methodLink "PartShelves$RepairPlan" 54 ⟨"java/util/ArrayList", "get", "(I)Ljava/lang/Object;"⟩, .instanceMethod ⟨"java/util/ArrayList", "get", "(I)Ljava/lang/Object;"⟩, .selects "java/util/ArrayList" ⟨"java/util/ArrayList", "get", "(I)Ljava/lang/Object;"⟩ ⟨"java/util/ArrayList", "get", "(I)Ljava/lang/Object;"⟩, .code ⟨"java/util/ArrayList", "get", "(I)Ljava/lang/Object;"⟩ prog_18_method_20_code 2 (some (.object "java/lang/Object")), .methodLink "java/util/ArrayList" 118 ⟨"java/util/Objects", "checkIndex", "(II)I"⟩, .static ⟨"java/util/Objects", "checkIndex", "(II)I"⟩, .initialized "java/util/Objects", .code ⟨"java/util/Objects", "checkIndex", "(II)I"⟩ prog_22_method_17_code 2 (some .int), .methodLink "java/util/Objects" 105 ⟨"jdk/internal/util/Preconditions", "checkIndex", "(IILjava/util/function/BiFunction;)I"⟩, .static ⟨"jdk/internal/util/Preconditions", "checkIndex", "(IILjava/util/function/BiFunction;)I"⟩, .initialized "jdk/internal/util/Preconditions", .code ⟨"jdk/internal/util/Preconditions", "checkIndex", "(IILjava/util/function/BiFunction;)I"⟩ prog_26_method_11_code 3 (some .int), .methodLink "java/util/ArrayList" 123 ⟨"java/util/ArrayList", "elementData", "(I)Ljava/lang/Object;"⟩, .instanceMethod ⟨"java/util/ArrayList", "elementData", "(I)Ljava/lang/Object;"⟩, .selects "java/util/ArrayList" ⟨"java/util/ArrayList", "elementData", "(I)Ljava/lang/Object;"⟩ ⟨"java/util/ArrayList", "elementData", "(I)Ljava/lang/Object;"⟩, .code ⟨"java/util/ArrayList", "elementData", "(I)Ljava/lang/Object;"⟩ prog_18_method_18_code 2 (some (.object "java/lang/Object")), .fieldLink "java/util/ArrayList" 9 "java/util/ArrayList" "elementData" "[Ljava/lang/Object;", .classLink "PartShelves$RepairPlan" 58 "PartShelves$Job", .fieldLink "PartShelves$RepairPlan" 60 "PartShelves$Job" "needs" "[I", .fieldLink "PartShelves$RepairPlan" 16 "PartShelves$RepairPlan" "freeCounts" "[I", .fieldLink "PartShelves$RepairPlan" 11 "PartShelves$RepairPlan" "freePrices" "[[J"] ++ u_ws R_N F_N 4 ++ u_ws R_L F_L 3 ++ u_ws R_J F_J 1)
set_option maxRecDepth 20000 in
theorem g_N_ch_sz : GoodIn w_N_choose (wsV R_N 30 R_L y_L_size w_L_size) := goodIn_p _ [7] rfl (by decide +kernel)
set_option maxRecDepth 20000 in
theorem g_N_ch_bc : GoodIn w_N_choose (va_wsS R_N 36 y_LI_bitCount w_LI_bitCount) := goodIn_p _ [13] rfl (by decide +kernel)
set_option maxRecDepth 20000 in
theorem g_N_ch_cs : GoodIn w_N_choose (wsV R_N 42 R_N y_N_costOfSet w_N_costOfSet) := goodIn_p _ [22, 25, 7, 28, 32, 36, 40, 44] rfl (by decide +kernel)
set_option maxHeartbeats 4000000 in
set_option maxRecDepth 100000 in
theorem c_N_choose (l : Launch) (D : va_G) (kC : Nat → ClassId) (ad : Nat → Nat) (rr : Nat → Nat) (fc : Nat → Nat) (tot : Int64) (ch : Nat) (fp : Nat → Nat → Nat) (eD : Nat) (h : Nat) (md : Int32) (x : Nat) (n : Nat) (ja : Nat → Nat) (jx : Nat → Nat) (jne : Nat → Nat → Nat) (sz : Nat) (hn6 : n ≤ 6) (hne : ∀ j k, jne j k ≤ 3) (hfc : ∀ k, fc k ≤ 8) (hfp : ∀ k i, fp k i ≤ 100000) : Met l y_N_choose w_N_choose ({ frames := 5, cells := 0, slots := 0, locals := 120 } : Room) (gPz cls D (tyL kC) [.ref (ad 0), .ref h] (fl [(wN kC ad rr fc tot ch), (pF kC rr fp), (wLq kC eD h md x n ja), (pJ kC ja jx jne n)]) sz eD) (gQi cls D (tyL kC) (fl [(wN kC ad rr fc tot ch), (pF kC rr fp), (wLq kC eD h md x n ja), (pJ kC ja jx jne n)]) sz (nI (szM (plM (fun z => cjM (kcC fc fp jne z n) 6) (2 ^ n - 1)).1 6)) (fl [(wN kC ad rr fc (lN (plM (fun z => cjM (kcC fc fp jne z n) 6) (2 ^ n - 1)).2) ((plM (fun z => cjM (kcC fc fp jne z n) 6) (2 ^ n - 1)).1)), (pF kC rr fp), (wLq kC eD h md x n ja), (pJ kC ja jx jne n)])) 0 0 (va_A (fl [(wN kC ad rr fc tot ch), (pF kC rr fp), (wLq kC eD h md x n ja), (pJ kC ja jx jne n)]) sz) := by
  refine Met.ofW (cc := b_N_choose) (maxL := 7) (ret := (some .int)) (by decide) rfl ?_
  intro p e s m args below meth c s₁ B hml hv
  obtain ⟨rfl, hsz, hP, hK, hD0, hz0⟩ := hv
  have hx := B.exec
  have hb := B.bytes
  have hr := B.returns
  have hts := atoms_spec (ws := w_N_choose) B.pre
  have hown : s.vm.findClass R_N = some m.cls := findClass_of_methodNamed B.named
  have hlocks := B.notSynchronized
  subst hsz
  obtain ⟨A, hAe⟩ : ∃ A : Nat → Prop, A = va_A (fl [(wN kC ad rr fc tot ch), (pF kC rr fp), (wLq kC eD h md x n ja), (pJ kC ja jx jne n)]) s.heap.size := ⟨_, rfl⟩
  have hD : va_D A (fl [(wN kC ad rr fc tot ch), (pF kC rr fp), (wLq kC eD h md x n ja), (pJ kC ja jx jne n)]) := by rw [hAe]; exact hD0.self
  have hA : ∀ q : Nat, s.heap.size ≤ q → A q := fun q h => by rw [hAe]; exact Or.inr h
  have hS : va_S A s.heap s.heap [] := va_S.rf
  have hz : lzE eD A s s.heap := by rw [hAe]; exact hz0
  have hzw : zW s := hz.2.2
  have hl := lv_entry ([.ref (ad 0), .ref h]) (n := 7) (Nat.le_of_ble_eq_true rfl)
  rw [lg_entry_eq]
  generalize (lg_sl ([.ref (ad 0), .ref h]) ++ List.replicate (7 - (lg_sl ([.ref (ad 0), .ref h])).length) Slot.unset).toArray = ls at hl ⊢
  have hl : lv_has ls 7 [(0, .ref (ad 0)), (1, .ref h)] := hl
  obtain ⟨S, eS⟩ : ∃ S, S = 2 ^ n := ⟨_, rfl⟩
  have hS64 : S ≤ 64 := by rw [eS]; exact Nat.le_trans (Nat.pow_le_pow_right (by decide) hn6) (by decide)
  have hS0 : 0 < S := by rw [eS]; exact Nat.two_pow_pos n
  have hcb : ∀ z c, (fun z => cjM (kcC fc fp jne z n) 6) z = some c → c ≤ 10800000 := fun z c h => by
    refine Nat.le_trans (cjM_b (B := 1800000) (fun k c hk => ?_) _ _ h) (by decide)
    have hmn := ndC_le (z := z) (k := k) hne n
    simp only [kcC] at hk
    split at hk
    · cases hk; exact Nat.le_trans (psm_le (B := 100000) (hfp k) _) (by omega)
    · cases hk
  refine lv_aload_n hx hb d_N_choose_0 rfl (lv_at hl 0 rfl) ?_
  refine lv_iconst (v := nI 0) hx hb d_N_choose_1 (by decide) ?_
  refine fv_put (ci := 6) (v := .int (nI 0)) (ty := (.int)) (C := R_N) (T := F_N) (N := 4) hx hb hts (by decide +kernel) t_N t_N_ok n_N hown hK hP hD hS 0 0 rfl rfl rfl 3 (by decide) (hts (.fieldLink R_N 26 "PartShelves$RepairPlan" "chosen" "I") (by decide +kernel)) (fun _ h9 => h9) rfl (by decide +kernel) (rfl) (rfl) (Nat.le_of_ble_eq_true rfl) d_N_choose_2 (fun H locs hP hD hS => ?_)
  have hP : va_P D cls (fl [(wN kC ad rr fc tot 0), (pF kC rr fp), (wLq kC eD h md x n ja), (pJ kC ja jx jne n)]) H := hP
  have hD : va_D A (fl [(wN kC ad rr fc tot 0), (pF kC rr fp), (wLq kC eD h md x n ja), (pJ kC ja jx jne n)]) := hD
  refine lv_aload_n hx hb d_N_choose_5 rfl (lv_at hl 0 rfl) ?_
  refine lv_lconst (v := lN 0) hx hb d_N_choose_6 (by decide) ?_
  refine fv_put (ci := 6) (v := .long (lN 0)) (ty := (.long)) (C := R_N) (T := F_N) (N := 4) hx hb hts (by decide +kernel) t_N t_N_ok n_N hown hK hP hD hS 0 0 rfl rfl rfl 2 (by decide) (hts (.fieldLink R_N 22 "PartShelves$RepairPlan" "total" "J") (by decide +kernel)) (fun _ h9 => h9) rfl (by decide +kernel) (rfl) (rfl) (Nat.le_of_ble_eq_true rfl) d_N_choose_7 (fun H locs hP hD hS => ?_)
  have hP : va_P D cls (fl [(wN kC ad rr fc (lN 0) 0), (pF kC rr fp), (wLq kC eD h md x n ja), (pJ kC ja jx jne n)]) H := hP
  have hD : va_D A (fl [(wN kC ad rr fc (lN 0) 0), (pF kC rr fp), (wLq kC eD h md x n ja), (pJ kC ja jx jne n)]) := hD
  refine lv_iconst (v := nI 1) hx hb d_N_choose_10 (by decide) ?_
  refine lv_aload_n hx hb d_N_choose_11 rfl (lv_at hl 1 rfl) ?_
  refine r_calli (W.runV (As := []) (rest := [.int (nI 1)]) ⟨hx, hb, hml, hown, hts⟩ (c_Lq_size l D kC eD h md x n ja) (cwV 0 hts g_N_ch_sz rfl rfl rfl (by decide +kernel) ⟨Nat.le_of_ble_eq_true rfl, Nat.le_of_ble_eq_true rfl⟩) (r_preV (q_recv hK hP 2 rfl) hK (fl_sub hP [2] rfl)) rfl rfl hl.1 rfl (lv_room (Nat.le_of_ble_eq_true rfl)) d_N_choose_12 ⟨Nat.le_of_ble_eq_true rfl, Nat.le_of_ble_eq_true rfl⟩) ?_
  refine lv_ishl hx hb d_N_choose_15 ?_
  refine nv_topi (y := nI S) (by rw [eS]; exact shl1 n (by omega)) ?_
  refine lv_istore_n (lv' := [(2, .int (nI S)), (0, .ref (ad 0)), (1, .ref h)]) hx hb d_N_choose_16 rfl hl (by decide) rfl (fun ls hl => ?_)
  refine lv_iconst (v := nI 1) hx hb d_N_choose_17 (by decide) ?_
  refine lv_istore_n (lv' := [(3, .int (nI 1)), (2, .int (nI S)), (0, .ref (ad 0)), (1, .ref h)]) hx hb d_N_choose_18 rfl hl (by decide) rfl (fun ls hl => ?_)
  have L19 : ∀ (n19 : Nat) (t : Nat), S - t < n19 → t + 1 ≤ S → ∀ (H : Heap) (locs : List Loc), va_P D cls (fl [(wN kC ad rr fc (lN (plM (fun z => cjM (kcC fc fp jne z n) 6) t).2) ((plM (fun z => cjM (kcC fc fp jne z n) 6) t).1)), (pF kC rr fp), (wLq kC eD h md x n ja), (pJ kC ja jx jne n)]) H → va_D A (fl [(wN kC ad rr fc (lN (plM (fun z => cjM (kcC fc fp jne z n) 6) t).2) ((plM (fun z => cjM (kcC fc fp jne z n) 6) t).1)), (pF kC rr fp), (wLq kC eD h md x n ja), (pJ kC ja jx jne n)]) → va_S A s.heap H locs → ∀ (ls : Array Slot), lv_has ls 7 [(0, .ref (ad 0)), (1, .ref h), (2, .int (nI S)), (3, .int (nI (t + 1)))] → W p l e (headSpec w_N_choose ({ frames := 5, cells := 0, slots := 0, locals := 120 } : Room)).room s m ([.ref (ad 0), .ref h] : List Value).toArray below meth c H locs 0 0 (MQ below (gQi cls D (tyL kC) (fl [(wN kC ad rr fc tot ch), (pF kC rr fp), (wLq kC eD h md x n ja), (pJ kC ja jx jne n)]) s.heap.size (nI (szM (plM (fun z => cjM (kcC fc fp jne z n) 6) (2 ^ n - 1)).1 6)) (fl [(wN kC ad rr fc (lN (plM (fun z => cjM (kcC fc fp jne z n) 6) (2 ^ n - 1)).2) ((plM (fun z => cjM (kcC fc fp jne z n) 6) (2 ^ n - 1)).1)), (pF kC rr fp), (wLq kC eD h md x n ja), (pJ kC ja jx jne n)])) ([.ref (ad 0), .ref h] : List Value).toArray s 0 0 (va_A (fl [(wN kC ad rr fc tot ch), (pF kC rr fp), (wLq kC eD h md x n ja), (pJ kC ja jx jne n)]) s.heap.size)) (F0 m 19 ls []) := by
    intro n19
    induction n19 with
    | zero =>
      intro t hm
      exact absurd hm (Nat.not_lt_zero _)
    | succ n19 ih19 =>
      intro t hm htS H locs hP hD hS ls hl
      refine lv_iload_n hx hb d_N_choose_19 rfl (lv_at hl 3 rfl) ?_
      refine lv_iload_n hx hb d_N_choose_20 rfl (lv_at hl 2 rfl) ?_
      refine nv_icmp_ge (tgt := 98) hx hb d_N_choose_21 (by decide) (by omega) (by omega) (fun ht => ?_) (fun ht => ?_)
      · obtain rfl : t = 2 ^ n - 1 := by omega
        refine lv_aload_n hx hb d_N_choose_98 rfl (lv_at hl 0 rfl) ?_
        refine fv_get (ci := 6) (v := .int (nI ((plM (fun z => cjM (kcC fc fp jne z n) 6) (2 ^ n - 1)).1))) (C := R_N) (T := F_N) (N := 4) hx hb hts (by decide +kernel) hown hK hP 0 0 rfl rfl rfl 3 (by decide) (hts (.fieldLink R_N 26 "PartShelves$RepairPlan" "chosen" "I") (by decide +kernel)) (fun _ h9 => h9) rfl d_N_choose_99 ?_
        refine r_calli (W.runS (As := [.int (nI ((plM (fun z => cjM (kcC fc fp jne z n) 6) (2 ^ n - 1)).1))]) (rest := []) ⟨hx, hb, hml, hown, hts⟩ (c_LI_bc l ((plM (fun z => cjM (kcC fc fp jne z n) 6) (2 ^ n - 1)).1) (by have := plM_le (fun z => cjM (kcC fc fp jne z n) 6) (2 ^ n - 1); omega)) (va_cwS 1 hts g_N_ch_bc rfl rfl rfl (by decide +kernel) ⟨Nat.le_of_ble_eq_true rfl, Nat.le_of_ble_eq_true rfl⟩) p0_preS rfl rfl hl.1 rfl (lv_room (Nat.le_of_ble_eq_true rfl)) d_N_choose_102 ⟨Nat.le_of_ble_eq_true rfl, Nat.le_of_ble_eq_true rfl⟩) ?_
        exact W.iret (v := nI (szM ((plM (fun z => cjM (kcC fc fp jne z n) 6) (2 ^ n - 1)).1) 6)) hx hb hr (fun t ht hW => by subst hAe; exact ⟨⟨(nI (szM ((plM (fun z => cjM (kcC fc fp jne z n) 6) (2 ^ n - 1)).1) 6)), (), rfl, rfl, by rw [ht]; exact hP, va_K.moved hW.alike hK, hD⟩, hS.F ht⟩) (by subst hAe; exact hS.2.2) d_N_choose_105
      · have hpl := plM_le (fun z => cjM (kcC fc fp jne z n) 6) t
        refine lv_iload_n hx hb d_N_choose_24 rfl (lv_at hl 3 rfl) ?_
        refine r_calli (W.runS (As := [.int (nI (t + 1))]) (rest := []) ⟨hx, hb, hml, hown, hts⟩ (c_LI_bc l (t + 1) (by omega)) (va_cwS 1 hts g_N_ch_bc rfl rfl rfl (by decide +kernel) ⟨Nat.le_of_ble_eq_true rfl, Nat.le_of_ble_eq_true rfl⟩) p0_preS rfl rfl hl.1 rfl (lv_room (Nat.le_of_ble_eq_true rfl)) d_N_choose_25 ⟨Nat.le_of_ble_eq_true rfl, Nat.le_of_ble_eq_true rfl⟩) ?_
        refine lv_aload_n hx hb d_N_choose_28 rfl (lv_at hl 0 rfl) ?_
        refine fv_get (ci := 6) (v := .int (nI ((plM (fun z => cjM (kcC fc fp jne z n) 6) t).1))) (C := R_N) (T := F_N) (N := 4) hx hb hts (by decide +kernel) hown hK hP 0 0 rfl rfl rfl 3 (by decide) (hts (.fieldLink R_N 26 "PartShelves$RepairPlan" "chosen" "I") (by decide +kernel)) (fun _ h9 => h9) rfl d_N_choose_29 ?_
        refine r_calli (W.runS (As := [.int (nI ((plM (fun z => cjM (kcC fc fp jne z n) 6) t).1))]) (rest := [.int (nI (szM (t + 1) 6))]) ⟨hx, hb, hml, hown, hts⟩ (c_LI_bc l ((plM (fun z => cjM (kcC fc fp jne z n) 6) t).1) (by omega)) (va_cwS 1 hts g_N_ch_bc rfl rfl rfl (by decide +kernel) ⟨Nat.le_of_ble_eq_true rfl, Nat.le_of_ble_eq_true rfl⟩) p0_preS rfl rfl hl.1 rfl (lv_room (Nat.le_of_ble_eq_true rfl)) d_N_choose_32 ⟨Nat.le_of_ble_eq_true rfl, Nat.le_of_ble_eq_true rfl⟩) ?_
        refine lv_isub hx hb d_N_choose_35 ?_
        refine lv_istore (lv' := [(4, .int ((nI (szM (t + 1) 6)) - (nI (szM ((plM (fun z => cjM (kcC fc fp jne z n) 6) t).1) 6)))), (0, .ref (ad 0)), (1, .ref h), (2, .int (nI S)), (3, .int (nI (t + 1)))]) hx hb d_N_choose_36 hl (by decide) rfl (fun ls hl => ?_)
        refine lv_iload hx hb d_N_choose_38 (lv_at hl 0 rfl) ?_
        refine lv_if_ge (tgt := 49) hx hb d_N_choose_40 (by decide) (fun h1 => ?_) (fun h1 => ?_)
        · refine lv_aload_n hx hb d_N_choose_49 rfl (lv_at hl 1 rfl) ?_
          refine lv_iload_n hx hb d_N_choose_50 rfl (lv_at hl 4 rfl) ?_
          refine lv_aload_n hx hb d_N_choose_51 rfl (lv_at hl 2 rfl) ?_
          refine r_calll (W.runV (As := [.int (nI (t + 1)), .ref h]) (rest := []) ⟨hx, hb, hml, hown, hts⟩ (c_N_cs l D kC ad rr fc (lN (plM (fun z => cjM (kcC fc fp jne z n) 6) t).2) ((plM (fun z => cjM (kcC fc fp jne z n) 6) t).1) fp eD h md x n ja jx jne (t + 1) (by omega) (hn6) (hne) (hfc) (hfp)) (cwV 2 hts g_N_ch_cs rfl rfl rfl (by decide +kernel) ⟨Nat.le_of_ble_eq_true rfl, Nat.le_of_ble_eq_true rfl⟩) (rz_preV hzw (f_recv (ci := 6) (q0 := 0) hK hP 0 rfl rfl rfl) hK (fl_sub hP [0, 1, 2, 3] rfl)) rfl rfl hl.1 rfl (lv_room (Nat.le_of_ble_eq_true rfl)) d_N_choose_52 ⟨Nat.le_of_ble_eq_true rfl, Nat.le_of_ble_eq_true rfl⟩) ?_
          rcases ho : cjM (kcC fc fp jne (t + 1) n) 6 with _ | o
          · refine nv_topl (y := (-1)) (rfl) ?_
            have hkeep : (plM (fun z => cjM (kcC fc fp jne z n) 6) (t + 1)) = (plM (fun z => cjM (kcC fc fp jne z n) 6) t) := by simp only [plM, ho]
            refine lv_lstore (lv' := [(5, .long (-1)), (4, .int ((nI (szM (t + 1) 6)) - (nI (szM ((plM (fun z => cjM (kcC fc fp jne z n) 6) t).1) 6)))), (0, .ref (ad 0)), (1, .ref h), (2, .int (nI S)), (3, .int (nI (t + 1)))]) hx hb d_N_choose_55 hl (by decide) rfl (fun ls hl => ?_)
            refine lv_lload hx hb d_N_choose_57 (lv_at hl 0 rfl) ?_
            refine lv_ldc2 (v := (-1)) hx hb hown (hts (.constantLong R_N 20 (-1)) (by decide +kernel)) d_N_choose_59 ?_
            refine lc_eq (tgt := 92) hx hb d_N_choose_62 d_N_choose_63 (by decide) (fun h4 => ?_) (fun h4 => ?_)
            · have ew1 : ((plM (fun z => cjM (kcC fc fp jne z n) 6) t).1) = ((plM (fun z => cjM (kcC fc fp jne z n) 6) (t + 1)).1) := (congrArg Prod.fst hkeep).symm
              have hP : va_P D cls (fl [(wN kC ad rr fc (lN (plM (fun z => cjM (kcC fc fp jne z n) 6) t).2) ((plM (fun z => cjM (kcC fc fp jne z n) 6) (t + 1)).1)), (pF kC rr fp), (wLq kC eD h md x n ja), (pJ kC ja jx jne n)]) H := by rw [← ew1]; exact hP
              have hD : va_D A (fl [(wN kC ad rr fc (lN (plM (fun z => cjM (kcC fc fp jne z n) 6) t).2) ((plM (fun z => cjM (kcC fc fp jne z n) 6) (t + 1)).1)), (pF kC rr fp), (wLq kC eD h md x n ja), (pJ kC ja jx jne n)]) := by rw [← ew1]; exact hD
              have ew2 : (lN (plM (fun z => cjM (kcC fc fp jne z n) 6) t).2) = (lN (plM (fun z => cjM (kcC fc fp jne z n) 6) (t + 1)).2) := (congrArg (fun q => lN q.2) hkeep).symm
              have hP : va_P D cls (fl [(wN kC ad rr fc (lN (plM (fun z => cjM (kcC fc fp jne z n) 6) (t + 1)).2) ((plM (fun z => cjM (kcC fc fp jne z n) 6) (t + 1)).1)), (pF kC rr fp), (wLq kC eD h md x n ja), (pJ kC ja jx jne n)]) H := by rw [← ew2]; exact hP
              have hD : va_D A (fl [(wN kC ad rr fc (lN (plM (fun z => cjM (kcC fc fp jne z n) 6) (t + 1)).2) ((plM (fun z => cjM (kcC fc fp jne z n) 6) (t + 1)).1)), (pF kC rr fp), (wLq kC eD h md x n ja), (pJ kC ja jx jne n)]) := by rw [← ew2]; exact hD
              refine lv_iinc (v := nI (t + 1 + 1)) (lv' := [(3, .int (nI (t + 1 + 1))), (5, .long (-1)), (4, .int ((nI (szM (t + 1) 6)) - (nI (szM ((plM (fun z => cjM (kcC fc fp jne z n) 6) t).1) 6)))), (0, .ref (ad 0)), (1, .ref h), (2, .int (nI S))]) hx hb d_N_choose_92 hl (k := 5) rfl (nI_1 (t + 1)) (by decide) rfl (fun ls hl => ?_)
              refine lv_goto (tgt := 19) hx hb d_N_choose_95 (by decide) ?_
              exact ih19 (t + 1) (by omega) (by omega) _ _ hP hD hS ls (lv_sub hl [3, 4, 5, 0] rfl)
            · exact absurd rfl h4
          · refine nv_topl (y := lN o) (rfl) ?_
            have hob := hcb _ _ ho
            have hlb := plM_b hcb t
            refine lv_lstore (lv' := [(5, .long (lN o)), (4, .int ((nI (szM (t + 1) 6)) - (nI (szM ((plM (fun z => cjM (kcC fc fp jne z n) 6) t).1) 6)))), (0, .ref (ad 0)), (1, .ref h), (2, .int (nI S)), (3, .int (nI (t + 1)))]) hx hb d_N_choose_55 hl (by decide) rfl (fun ls hl => ?_)
            refine lv_lload hx hb d_N_choose_57 (lv_at hl 0 rfl) ?_
            refine lv_ldc2 (v := (-1)) hx hb hown (hts (.constantLong R_N 20 (-1)) (by decide +kernel)) d_N_choose_59 ?_
            refine lc_eq (tgt := 92) hx hb d_N_choose_62 d_N_choose_63 (by decide) (fun h4 => ?_) (fun h4 => ?_)
            · exact absurd h4 (fun q => absurd ((encI_n (x := some o) (fun v hv => by cases hv; omega)).mp q) (by simp))
            · refine lv_iload hx hb d_N_choose_66 (lv_at hl 1 rfl) ?_
              refine lv_if_gt (tgt := 81) hx hb d_N_choose_68 (by decide) (fun h2 => ?_) (fun h2 => ?_)
              · refine lv_aload_n hx hb d_N_choose_81 rfl (lv_at hl 2 rfl) ?_
                refine lv_iload_n hx hb d_N_choose_82 rfl (lv_at hl 5 rfl) ?_
                refine fv_put (ci := 6) (v := .int (nI (t + 1))) (ty := (.int)) (C := R_N) (T := F_N) (N := 4) hx hb hts (by decide +kernel) t_N t_N_ok n_N hown hK hP hD hS 0 0 rfl rfl rfl 3 (by decide) (hts (.fieldLink R_N 26 "PartShelves$RepairPlan" "chosen" "I") (by decide +kernel)) (fun _ h9 => h9) rfl (by decide +kernel) (rfl) (rfl) (Nat.le_of_ble_eq_true rfl) d_N_choose_83 (fun H locs hP hD hS => ?_)
                have hP : va_P D cls (fl [(wN kC ad rr fc (lN (plM (fun z => cjM (kcC fc fp jne z n) 6) t).2) (t + 1)), (pF kC rr fp), (wLq kC eD h md x n ja), (pJ kC ja jx jne n)]) H := hP
                have hD : va_D A (fl [(wN kC ad rr fc (lN (plM (fun z => cjM (kcC fc fp jne z n) 6) t).2) (t + 1)), (pF kC rr fp), (wLq kC eD h md x n ja), (pJ kC ja jx jne n)]) := hD
                refine lv_aload_n hx hb d_N_choose_86 rfl (lv_at hl 2 rfl) ?_
                refine lv_lload hx hb d_N_choose_87 (lv_at hl 0 rfl) ?_
                refine fv_put (ci := 6) (v := .long (lN o)) (ty := (.long)) (C := R_N) (T := F_N) (N := 4) hx hb hts (by decide +kernel) t_N t_N_ok n_N hown hK hP hD hS 0 0 rfl rfl rfl 2 (by decide) (hts (.fieldLink R_N 22 "PartShelves$RepairPlan" "total" "J") (by decide +kernel)) (fun _ h9 => h9) rfl (by decide +kernel) (rfl) (rfl) (Nat.le_of_ble_eq_true rfl) d_N_choose_89 (fun H locs hP hD hS => ?_)
                have hP : va_P D cls (fl [(wN kC ad rr fc (lN o) (t + 1)), (pF kC rr fp), (wLq kC eD h md x n ja), (pJ kC ja jx jne n)]) H := hP
                have hD : va_D A (fl [(wN kC ad rr fc (lN o) (t + 1)), (pF kC rr fp), (wLq kC eD h md x n ja), (pJ kC ja jx jne n)]) := hD
                have ew3 : (t + 1) = ((plM (fun z => cjM (kcC fc fp jne z n) 6) (t + 1)).1) := (congrArg Prod.fst (show (plM (fun z => cjM (kcC fc fp jne z n) 6) (t + 1)) = (t + 1, o) by simp only [plM, ho]; exact if_pos (by first | exact Or.inl ((mI_gt (szM (t + 1) 6) (Nat.lt_succ_of_le (szM_le _ _)) (szM (plM (fun z => cjM (kcC fc fp jne z n) 6) t).1 6) (Nat.lt_succ_of_le (szM_le _ _))).mp h2) | exact Or.inr ⟨Nat.le_antisymm (Nat.le_of_not_lt (fun q => h2 ((mI_gt (szM (t + 1) 6) (Nat.lt_succ_of_le (szM_le _ _)) (szM (plM (fun z => cjM (kcC fc fp jne z n) 6) t).1 6) (Nat.lt_succ_of_le (szM_le _ _))).mpr q))) ((mI_ge (szM (t + 1) 6) (Nat.lt_succ_of_le (szM_le _ _)) (szM (plM (fun z => cjM (kcC fc fp jne z n) 6) t).1 6) (Nat.lt_succ_of_le (szM_le _ _))).mp h1), (lN_lt (by omega) (by omega)).mp (by simpa using h3)⟩))).symm
                have hP : va_P D cls (fl [(wN kC ad rr fc (lN o) ((plM (fun z => cjM (kcC fc fp jne z n) 6) (t + 1)).1)), (pF kC rr fp), (wLq kC eD h md x n ja), (pJ kC ja jx jne n)]) H := by rw [← ew3]; exact hP
                have hD : va_D A (fl [(wN kC ad rr fc (lN o) ((plM (fun z => cjM (kcC fc fp jne z n) 6) (t + 1)).1)), (pF kC rr fp), (wLq kC eD h md x n ja), (pJ kC ja jx jne n)]) := by rw [← ew3]; exact hD
                have ew4 : (lN o) = (lN (plM (fun z => cjM (kcC fc fp jne z n) 6) (t + 1)).2) := (congrArg (fun q => lN q.2) (show (plM (fun z => cjM (kcC fc fp jne z n) 6) (t + 1)) = (t + 1, o) by simp only [plM, ho]; exact if_pos (by first | exact Or.inl ((mI_gt (szM (t + 1) 6) (Nat.lt_succ_of_le (szM_le _ _)) (szM (plM (fun z => cjM (kcC fc fp jne z n) 6) t).1 6) (Nat.lt_succ_of_le (szM_le _ _))).mp h2) | exact Or.inr ⟨Nat.le_antisymm (Nat.le_of_not_lt (fun q => h2 ((mI_gt (szM (t + 1) 6) (Nat.lt_succ_of_le (szM_le _ _)) (szM (plM (fun z => cjM (kcC fc fp jne z n) 6) t).1 6) (Nat.lt_succ_of_le (szM_le _ _))).mpr q))) ((mI_ge (szM (t + 1) 6) (Nat.lt_succ_of_le (szM_le _ _)) (szM (plM (fun z => cjM (kcC fc fp jne z n) 6) t).1 6) (Nat.lt_succ_of_le (szM_le _ _))).mp h1), (lN_lt (by omega) (by omega)).mp (by simpa using h3)⟩))).symm
                have hP : va_P D cls (fl [(wN kC ad rr fc (lN (plM (fun z => cjM (kcC fc fp jne z n) 6) (t + 1)).2) ((plM (fun z => cjM (kcC fc fp jne z n) 6) (t + 1)).1)), (pF kC rr fp), (wLq kC eD h md x n ja), (pJ kC ja jx jne n)]) H := by rw [← ew4]; exact hP
                have hD : va_D A (fl [(wN kC ad rr fc (lN (plM (fun z => cjM (kcC fc fp jne z n) 6) (t + 1)).2) ((plM (fun z => cjM (kcC fc fp jne z n) 6) (t + 1)).1)), (pF kC rr fp), (wLq kC eD h md x n ja), (pJ kC ja jx jne n)]) := by rw [← ew4]; exact hD
                refine lv_iinc (v := nI (t + 1 + 1)) (lv' := [(3, .int (nI (t + 1 + 1))), (5, .long (lN o)), (4, .int ((nI (szM (t + 1) 6)) - (nI (szM ((plM (fun z => cjM (kcC fc fp jne z n) 6) t).1) 6)))), (0, .ref (ad 0)), (1, .ref h), (2, .int (nI S))]) hx hb d_N_choose_92 hl (k := 5) rfl (nI_1 (t + 1)) (by decide) rfl (fun ls hl => ?_)
                refine lv_goto (tgt := 19) hx hb d_N_choose_95 (by decide) ?_
                exact ih19 (t + 1) (by omega) (by omega) _ _ hP hD hS ls (lv_sub hl [3, 4, 5, 0] rfl)
              · refine lv_lload hx hb d_N_choose_71 (lv_at hl 0 rfl) ?_
                refine lv_aload_n hx hb d_N_choose_73 rfl (lv_at hl 2 rfl) ?_
                refine fv_get (ci := 6) (v := .long (lN (plM (fun z => cjM (kcC fc fp jne z n) 6) t).2)) (C := R_N) (T := F_N) (N := 4) hx hb hts (by decide +kernel) hown hK hP 0 0 rfl rfl rfl 2 (by decide) (hts (.fieldLink R_N 22 "PartShelves$RepairPlan" "total" "J") (by decide +kernel)) (fun _ h9 => h9) rfl d_N_choose_74 ?_
                refine lc_ge (tgt := 92) hx hb d_N_choose_77 d_N_choose_78 (by decide) (fun h3 => ?_) (fun h3 => ?_)
                · have ew5 : ((plM (fun z => cjM (kcC fc fp jne z n) 6) t).1) = ((plM (fun z => cjM (kcC fc fp jne z n) 6) (t + 1)).1) := (congrArg Prod.fst (show (plM (fun z => cjM (kcC fc fp jne z n) 6) (t + 1)) = (plM (fun z => cjM (kcC fc fp jne z n) 6) t) by simp only [plM, ho]; exact if_neg (fun y => y.elim (fun z => h2 ((mI_gt (szM (t + 1) 6) (Nat.lt_succ_of_le (szM_le _ _)) (szM (plM (fun z => cjM (kcC fc fp jne z n) 6) t).1 6) (Nat.lt_succ_of_le (szM_le _ _))).mpr z)) (fun z => absurd ((lN_lt (by omega) (by omega)).mpr z.2) (by simpa using h3))))).symm
                  have hP : va_P D cls (fl [(wN kC ad rr fc (lN (plM (fun z => cjM (kcC fc fp jne z n) 6) t).2) ((plM (fun z => cjM (kcC fc fp jne z n) 6) (t + 1)).1)), (pF kC rr fp), (wLq kC eD h md x n ja), (pJ kC ja jx jne n)]) H := by rw [← ew5]; exact hP
                  have hD : va_D A (fl [(wN kC ad rr fc (lN (plM (fun z => cjM (kcC fc fp jne z n) 6) t).2) ((plM (fun z => cjM (kcC fc fp jne z n) 6) (t + 1)).1)), (pF kC rr fp), (wLq kC eD h md x n ja), (pJ kC ja jx jne n)]) := by rw [← ew5]; exact hD
                  have ew6 : (lN (plM (fun z => cjM (kcC fc fp jne z n) 6) t).2) = (lN (plM (fun z => cjM (kcC fc fp jne z n) 6) (t + 1)).2) := (congrArg (fun q => lN q.2) (show (plM (fun z => cjM (kcC fc fp jne z n) 6) (t + 1)) = (plM (fun z => cjM (kcC fc fp jne z n) 6) t) by simp only [plM, ho]; exact if_neg (fun y => y.elim (fun z => h2 ((mI_gt (szM (t + 1) 6) (Nat.lt_succ_of_le (szM_le _ _)) (szM (plM (fun z => cjM (kcC fc fp jne z n) 6) t).1 6) (Nat.lt_succ_of_le (szM_le _ _))).mpr z)) (fun z => absurd ((lN_lt (by omega) (by omega)).mpr z.2) (by simpa using h3))))).symm
                  have hP : va_P D cls (fl [(wN kC ad rr fc (lN (plM (fun z => cjM (kcC fc fp jne z n) 6) (t + 1)).2) ((plM (fun z => cjM (kcC fc fp jne z n) 6) (t + 1)).1)), (pF kC rr fp), (wLq kC eD h md x n ja), (pJ kC ja jx jne n)]) H := by rw [← ew6]; exact hP
                  have hD : va_D A (fl [(wN kC ad rr fc (lN (plM (fun z => cjM (kcC fc fp jne z n) 6) (t + 1)).2) ((plM (fun z => cjM (kcC fc fp jne z n) 6) (t + 1)).1)), (pF kC rr fp), (wLq kC eD h md x n ja), (pJ kC ja jx jne n)]) := by rw [← ew6]; exact hD
                  refine lv_iinc (v := nI (t + 1 + 1)) (lv' := [(3, .int (nI (t + 1 + 1))), (5, .long (lN o)), (4, .int ((nI (szM (t + 1) 6)) - (nI (szM ((plM (fun z => cjM (kcC fc fp jne z n) 6) t).1) 6)))), (0, .ref (ad 0)), (1, .ref h), (2, .int (nI S))]) hx hb d_N_choose_92 hl (k := 5) rfl (nI_1 (t + 1)) (by decide) rfl (fun ls hl => ?_)
                  refine lv_goto (tgt := 19) hx hb d_N_choose_95 (by decide) ?_
                  exact ih19 (t + 1) (by omega) (by omega) _ _ hP hD hS ls (lv_sub hl [3, 4, 5, 0] rfl)
                · refine lv_aload_n hx hb d_N_choose_81 rfl (lv_at hl 2 rfl) ?_
                  refine lv_iload_n hx hb d_N_choose_82 rfl (lv_at hl 5 rfl) ?_
                  refine fv_put (ci := 6) (v := .int (nI (t + 1))) (ty := (.int)) (C := R_N) (T := F_N) (N := 4) hx hb hts (by decide +kernel) t_N t_N_ok n_N hown hK hP hD hS 0 0 rfl rfl rfl 3 (by decide) (hts (.fieldLink R_N 26 "PartShelves$RepairPlan" "chosen" "I") (by decide +kernel)) (fun _ h9 => h9) rfl (by decide +kernel) (rfl) (rfl) (Nat.le_of_ble_eq_true rfl) d_N_choose_83 (fun H locs hP hD hS => ?_)
                  have hP : va_P D cls (fl [(wN kC ad rr fc (lN (plM (fun z => cjM (kcC fc fp jne z n) 6) t).2) (t + 1)), (pF kC rr fp), (wLq kC eD h md x n ja), (pJ kC ja jx jne n)]) H := hP
                  have hD : va_D A (fl [(wN kC ad rr fc (lN (plM (fun z => cjM (kcC fc fp jne z n) 6) t).2) (t + 1)), (pF kC rr fp), (wLq kC eD h md x n ja), (pJ kC ja jx jne n)]) := hD
                  refine lv_aload_n hx hb d_N_choose_86 rfl (lv_at hl 2 rfl) ?_
                  refine lv_lload hx hb d_N_choose_87 (lv_at hl 0 rfl) ?_
                  refine fv_put (ci := 6) (v := .long (lN o)) (ty := (.long)) (C := R_N) (T := F_N) (N := 4) hx hb hts (by decide +kernel) t_N t_N_ok n_N hown hK hP hD hS 0 0 rfl rfl rfl 2 (by decide) (hts (.fieldLink R_N 22 "PartShelves$RepairPlan" "total" "J") (by decide +kernel)) (fun _ h9 => h9) rfl (by decide +kernel) (rfl) (rfl) (Nat.le_of_ble_eq_true rfl) d_N_choose_89 (fun H locs hP hD hS => ?_)
                  have hP : va_P D cls (fl [(wN kC ad rr fc (lN o) (t + 1)), (pF kC rr fp), (wLq kC eD h md x n ja), (pJ kC ja jx jne n)]) H := hP
                  have hD : va_D A (fl [(wN kC ad rr fc (lN o) (t + 1)), (pF kC rr fp), (wLq kC eD h md x n ja), (pJ kC ja jx jne n)]) := hD
                  have ew7 : (t + 1) = ((plM (fun z => cjM (kcC fc fp jne z n) 6) (t + 1)).1) := (congrArg Prod.fst (show (plM (fun z => cjM (kcC fc fp jne z n) 6) (t + 1)) = (t + 1, o) by simp only [plM, ho]; exact if_pos (by first | exact Or.inl ((mI_gt (szM (t + 1) 6) (Nat.lt_succ_of_le (szM_le _ _)) (szM (plM (fun z => cjM (kcC fc fp jne z n) 6) t).1 6) (Nat.lt_succ_of_le (szM_le _ _))).mp h2) | exact Or.inr ⟨Nat.le_antisymm (Nat.le_of_not_lt (fun q => h2 ((mI_gt (szM (t + 1) 6) (Nat.lt_succ_of_le (szM_le _ _)) (szM (plM (fun z => cjM (kcC fc fp jne z n) 6) t).1 6) (Nat.lt_succ_of_le (szM_le _ _))).mpr q))) ((mI_ge (szM (t + 1) 6) (Nat.lt_succ_of_le (szM_le _ _)) (szM (plM (fun z => cjM (kcC fc fp jne z n) 6) t).1 6) (Nat.lt_succ_of_le (szM_le _ _))).mp h1), (lN_lt (by omega) (by omega)).mp (by simpa using h3)⟩))).symm
                  have hP : va_P D cls (fl [(wN kC ad rr fc (lN o) ((plM (fun z => cjM (kcC fc fp jne z n) 6) (t + 1)).1)), (pF kC rr fp), (wLq kC eD h md x n ja), (pJ kC ja jx jne n)]) H := by rw [← ew7]; exact hP
                  have hD : va_D A (fl [(wN kC ad rr fc (lN o) ((plM (fun z => cjM (kcC fc fp jne z n) 6) (t + 1)).1)), (pF kC rr fp), (wLq kC eD h md x n ja), (pJ kC ja jx jne n)]) := by rw [← ew7]; exact hD
                  have ew8 : (lN o) = (lN (plM (fun z => cjM (kcC fc fp jne z n) 6) (t + 1)).2) := (congrArg (fun q => lN q.2) (show (plM (fun z => cjM (kcC fc fp jne z n) 6) (t + 1)) = (t + 1, o) by simp only [plM, ho]; exact if_pos (by first | exact Or.inl ((mI_gt (szM (t + 1) 6) (Nat.lt_succ_of_le (szM_le _ _)) (szM (plM (fun z => cjM (kcC fc fp jne z n) 6) t).1 6) (Nat.lt_succ_of_le (szM_le _ _))).mp h2) | exact Or.inr ⟨Nat.le_antisymm (Nat.le_of_not_lt (fun q => h2 ((mI_gt (szM (t + 1) 6) (Nat.lt_succ_of_le (szM_le _ _)) (szM (plM (fun z => cjM (kcC fc fp jne z n) 6) t).1 6) (Nat.lt_succ_of_le (szM_le _ _))).mpr q))) ((mI_ge (szM (t + 1) 6) (Nat.lt_succ_of_le (szM_le _ _)) (szM (plM (fun z => cjM (kcC fc fp jne z n) 6) t).1 6) (Nat.lt_succ_of_le (szM_le _ _))).mp h1), (lN_lt (by omega) (by omega)).mp (by simpa using h3)⟩))).symm
                  have hP : va_P D cls (fl [(wN kC ad rr fc (lN (plM (fun z => cjM (kcC fc fp jne z n) 6) (t + 1)).2) ((plM (fun z => cjM (kcC fc fp jne z n) 6) (t + 1)).1)), (pF kC rr fp), (wLq kC eD h md x n ja), (pJ kC ja jx jne n)]) H := by rw [← ew8]; exact hP
                  have hD : va_D A (fl [(wN kC ad rr fc (lN (plM (fun z => cjM (kcC fc fp jne z n) 6) (t + 1)).2) ((plM (fun z => cjM (kcC fc fp jne z n) 6) (t + 1)).1)), (pF kC rr fp), (wLq kC eD h md x n ja), (pJ kC ja jx jne n)]) := by rw [← ew8]; exact hD
                  refine lv_iinc (v := nI (t + 1 + 1)) (lv' := [(3, .int (nI (t + 1 + 1))), (5, .long (lN o)), (4, .int ((nI (szM (t + 1) 6)) - (nI (szM ((plM (fun z => cjM (kcC fc fp jne z n) 6) t).1) 6)))), (0, .ref (ad 0)), (1, .ref h), (2, .int (nI S))]) hx hb d_N_choose_92 hl (k := 5) rfl (nI_1 (t + 1)) (by decide) rfl (fun ls hl => ?_)
                  refine lv_goto (tgt := 19) hx hb d_N_choose_95 (by decide) ?_
                  exact ih19 (t + 1) (by omega) (by omega) _ _ hP hD hS ls (lv_sub hl [3, 4, 5, 0] rfl)
        · refine lv_ldc2 (v := (-1)) hx hb hown (hts (.constantLong R_N 20 (-1)) (by decide +kernel)) d_N_choose_43 ?_
          have hkeep : (plM (fun z => cjM (kcC fc fp jne z n) 6) (t + 1)) = (plM (fun z => cjM (kcC fc fp jne z n) 6) t) := by
            have hlt := Nat.lt_of_not_le (fun q => h1 ((mI_ge (szM (t + 1) 6) (Nat.lt_succ_of_le (szM_le _ _)) (szM (plM (fun z => cjM (kcC fc fp jne z n) 6) t).1 6) (Nat.lt_succ_of_le (szM_le _ _))).mpr q))
            simp only [plM]
            split
            · rfl
            · exact if_neg (fun y => y.elim (fun z => by omega) (fun z => by omega))
          refine lv_goto (tgt := 55) hx hb d_N_choose_46 (by decide) ?_
          refine lv_lstore (lv' := [(5, .long (-1)), (4, .int ((nI (szM (t + 1) 6)) - (nI (szM ((plM (fun z => cjM (kcC fc fp jne z n) 6) t).1) 6)))), (0, .ref (ad 0)), (1, .ref h), (2, .int (nI S)), (3, .int (nI (t + 1)))]) hx hb d_N_choose_55 hl (by decide) rfl (fun ls hl => ?_)
          refine lv_lload hx hb d_N_choose_57 (lv_at hl 0 rfl) ?_
          refine lv_ldc2 (v := (-1)) hx hb hown (hts (.constantLong R_N 20 (-1)) (by decide +kernel)) d_N_choose_59 ?_
          refine lc_eq (tgt := 92) hx hb d_N_choose_62 d_N_choose_63 (by decide) (fun h4 => ?_) (fun h4 => ?_)
          · have ew9 : ((plM (fun z => cjM (kcC fc fp jne z n) 6) t).1) = ((plM (fun z => cjM (kcC fc fp jne z n) 6) (t + 1)).1) := (congrArg Prod.fst hkeep).symm
            have hP : va_P D cls (fl [(wN kC ad rr fc (lN (plM (fun z => cjM (kcC fc fp jne z n) 6) t).2) ((plM (fun z => cjM (kcC fc fp jne z n) 6) (t + 1)).1)), (pF kC rr fp), (wLq kC eD h md x n ja), (pJ kC ja jx jne n)]) H := by rw [← ew9]; exact hP
            have hD : va_D A (fl [(wN kC ad rr fc (lN (plM (fun z => cjM (kcC fc fp jne z n) 6) t).2) ((plM (fun z => cjM (kcC fc fp jne z n) 6) (t + 1)).1)), (pF kC rr fp), (wLq kC eD h md x n ja), (pJ kC ja jx jne n)]) := by rw [← ew9]; exact hD
            have ew10 : (lN (plM (fun z => cjM (kcC fc fp jne z n) 6) t).2) = (lN (plM (fun z => cjM (kcC fc fp jne z n) 6) (t + 1)).2) := (congrArg (fun q => lN q.2) hkeep).symm
            have hP : va_P D cls (fl [(wN kC ad rr fc (lN (plM (fun z => cjM (kcC fc fp jne z n) 6) (t + 1)).2) ((plM (fun z => cjM (kcC fc fp jne z n) 6) (t + 1)).1)), (pF kC rr fp), (wLq kC eD h md x n ja), (pJ kC ja jx jne n)]) H := by rw [← ew10]; exact hP
            have hD : va_D A (fl [(wN kC ad rr fc (lN (plM (fun z => cjM (kcC fc fp jne z n) 6) (t + 1)).2) ((plM (fun z => cjM (kcC fc fp jne z n) 6) (t + 1)).1)), (pF kC rr fp), (wLq kC eD h md x n ja), (pJ kC ja jx jne n)]) := by rw [← ew10]; exact hD
            refine lv_iinc (v := nI (t + 1 + 1)) (lv' := [(3, .int (nI (t + 1 + 1))), (5, .long (-1)), (4, .int ((nI (szM (t + 1) 6)) - (nI (szM ((plM (fun z => cjM (kcC fc fp jne z n) 6) t).1) 6)))), (0, .ref (ad 0)), (1, .ref h), (2, .int (nI S))]) hx hb d_N_choose_92 hl (k := 5) rfl (nI_1 (t + 1)) (by decide) rfl (fun ls hl => ?_)
            refine lv_goto (tgt := 19) hx hb d_N_choose_95 (by decide) ?_
            exact ih19 (t + 1) (by omega) (by omega) _ _ hP hD hS ls (lv_sub hl [3, 4, 5, 0] rfl)
          · exact absurd rfl h4
  have ew11 : 0 = ((plM (fun z => cjM (kcC fc fp jne z n) 6) 0).1) := rfl
  have hP : va_P D cls (fl [(wN kC ad rr fc (lN 0) ((plM (fun z => cjM (kcC fc fp jne z n) 6) 0).1)), (pF kC rr fp), (wLq kC eD h md x n ja), (pJ kC ja jx jne n)]) H := by rw [← ew11]; exact hP
  have hD : va_D A (fl [(wN kC ad rr fc (lN 0) ((plM (fun z => cjM (kcC fc fp jne z n) 6) 0).1)), (pF kC rr fp), (wLq kC eD h md x n ja), (pJ kC ja jx jne n)]) := by rw [← ew11]; exact hD
  have ew12 : (lN 0) = (lN (plM (fun z => cjM (kcC fc fp jne z n) 6) 0).2) := rfl
  have hP : va_P D cls (fl [(wN kC ad rr fc (lN (plM (fun z => cjM (kcC fc fp jne z n) 6) 0).2) ((plM (fun z => cjM (kcC fc fp jne z n) 6) 0).1)), (pF kC rr fp), (wLq kC eD h md x n ja), (pJ kC ja jx jne n)]) H := by rw [← ew12]; exact hP
  have hD : va_D A (fl [(wN kC ad rr fc (lN (plM (fun z => cjM (kcC fc fp jne z n) 6) 0).2) ((plM (fun z => cjM (kcC fc fp jne z n) 6) 0).1)), (pF kC rr fp), (wLq kC eD h md x n ja), (pJ kC ja jx jne n)]) := by rw [← ew12]; exact hD
  exact L19 _ 0 (Nat.lt_succ_self _) (by omega) _ _ hP hD hS ls (lv_sub hl [2, 3, 1, 0] rfl)

abbrev b_N_i : ByteArray := prog_7_method_1_code
def y_N_i : MethodName := ⟨"PartShelves$RepairPlan", "<init>", "()V"⟩
theorem d_N_i_0 : decode b_N_i 0 = .ok (.aload_n 0, 1) := by decide +kernel
theorem d_N_i_1 : decode b_N_i 1 = .ok (.invokespecial 3, 3) := by decide +kernel
theorem d_N_i_4 : decode b_N_i 4 = .ok (.aload_n 0, 1) := by decide +kernel
theorem d_N_i_5 : decode b_N_i 5 = .ok (.bipush 6, 2) := by decide +kernel
theorem d_N_i_7 : decode b_N_i 7 = .ok (.bipush 8, 2) := by decide +kernel
theorem d_N_i_9 : decode b_N_i 9 = .ok (.multianewarray 9 2, 4) := by decide +kernel
theorem d_N_i_13 : decode b_N_i 13 = .ok (.putfield 11, 3) := by decide +kernel
theorem d_N_i_16 : decode b_N_i 16 = .ok (.aload_n 0, 1) := by decide +kernel
theorem d_N_i_17 : decode b_N_i 17 = .ok (.bipush 6, 2) := by decide +kernel
theorem d_N_i_19 : decode b_N_i 19 = .ok (.newarray .int, 2) := by decide +kernel
theorem d_N_i_21 : decode b_N_i 21 = .ok (.putfield 16, 3) := by decide +kernel
theorem d_N_i_24 : decode b_N_i 24 = .ok (.aload_n 0, 1) := by decide +kernel
theorem d_N_i_25 : decode b_N_i 25 = .ok (.ldc2_w 20, 3) := by decide +kernel
theorem d_N_i_28 : decode b_N_i 28 = .ok (.putfield 22, 3) := by decide +kernel
theorem d_N_i_31 : decode b_N_i 31 = .ok (.aload_n 0, 1) := by decide +kernel
theorem d_N_i_32 : decode b_N_i 32 = .ok (.iconst 0, 1) := by decide +kernel
theorem d_N_i_33 : decode b_N_i 33 = .ok (.putfield 26, 3) := by decide +kernel
theorem d_N_i_36 : decode b_N_i 36 = .ok (.return_, 1) := by decide +kernel
def w_N_i : List Cond := .code y_N_i b_N_i 1 none :: ([.methodLink "PartShelves$RepairPlan" 3 ⟨"java/lang/Object", "<init>", "()V"⟩, .instanceMethod ⟨"java/lang/Object", "<init>", "()V"⟩, .code ⟨"java/lang/Object", "<init>", "()V"⟩ object_method_1_code 1 none, .classLink "PartShelves$RepairPlan" 9 "[[J", .arrayClass .long, .fieldLink "PartShelves$RepairPlan" 11 "PartShelves$RepairPlan" "freePrices" "[[J", .arrayClass .int, .fieldLink "PartShelves$RepairPlan" 16 "PartShelves$RepairPlan" "freeCounts" "[I", .constantLong "PartShelves$RepairPlan" 20 (-1), .fieldLink "PartShelves$RepairPlan" 22 "PartShelves$RepairPlan" "total" "J", .fieldLink "PartShelves$RepairPlan" 26 "PartShelves$RepairPlan" "chosen" "I"] ++ u_ws R_N F_N 4)
theorem mna_long : "[" ++ (FieldType.array .long).toString = "[[J" := by decide +kernel
theorem z_inner (c : ClassId) : Jvm.Free.Multi.innerC c 8 (defaultValue .long) = vp_cell c (8, .inr (.inl (fun _ => lN 0))) := by
  show ({ cls := c, slots := Array.replicate 8 _, vm := .none } : Cell) = _
  rw [arrV_new]
  rfl
set_option maxHeartbeats 4000000 in
set_option maxRecDepth 100000 in
theorem c_N_i (l : Launch) (D : va_G) (kC : Nat → ClassId) (h0 : Nat) (eD : Nat) (sz : Nat) : Met l y_N_i w_N_i ({ frames := 1, cells := 8, slots := 60, locals := 12 } : Room) (gPz cls D (tyL kC) [.ref h0] (fl [[(h0, .inr (6, [.null, .null, .long (lN 0), .int (nI 0)]))]]) sz eD) (va_Qv (fun (u : (Nat → Nat) × (Nat → Nat)) => u.1 0 = h0) (fun u t => gB cls D (tyL kC) (va_A (fl [[(h0, .inr (6, [.null, .null, .long (lN 0), .int (nI 0)]))]]) sz) (fl [(wN kC u.1 u.2 (fun _ => 0) (-1) 0), (pF kC u.2 (fun _ _ => 0))]) t) (va_A (fl [[(h0, .inr (6, [.null, .null, .long (lN 0), .int (nI 0)]))]]) sz)) 8 60 (va_A (fl [[(h0, .inr (6, [.null, .null, .long (lN 0), .int (nI 0)]))]]) sz) := by
  refine Met.ofW (cc := b_N_i) (maxL := 1) (ret := none) (by decide) rfl ?_
  intro p e s m args below meth c s₁ B hml hv
  obtain ⟨rfl, hsz, hP, hK, hD0, hz0⟩ := hv
  have hx := B.exec
  have hb := B.bytes
  have hr := B.returns
  have hts := atoms_spec (ws := w_N_i) B.pre
  have hown : s.vm.findClass R_N = some m.cls := findClass_of_methodNamed B.named
  have hlocks := B.notSynchronized
  have hin : meth.name = "<init>" := (name_of_methodNamed B.named B.method).1
  subst hsz
  obtain ⟨A, hAe⟩ : ∃ A : Nat → Prop, A = va_A (fl [[(h0, .inr (6, [.null, .null, .long (lN 0), .int (nI 0)]))]]) s.heap.size := ⟨_, rfl⟩
  have hD : va_D A (fl [[(h0, .inr (6, [.null, .null, .long (lN 0), .int (nI 0)]))]]) := by rw [hAe]; exact hD0.self
  have hA : ∀ q : Nat, s.heap.size ≤ q → A q := fun q h => by rw [hAe]; exact Or.inr h
  have hS : va_S A s.heap s.heap [] := va_S.rf
  have hz : lzE eD A s s.heap := by rw [hAe]; exact hz0
  have hzw : zW s := hz.2.2
  have hl := lv_entry ([.ref h0]) (n := 1) (Nat.le_of_ble_eq_true rfl)
  rw [lg_entry_eq]
  generalize (lg_sl ([.ref h0]) ++ List.replicate (1 - (lg_sl ([.ref h0])).length) Slot.unset).toArray = ls at hl ⊢
  have hl : lv_has ls 1 [(0, .ref h0)] := hl
  refine lv_aload_n hx hb d_N_i_0 rfl (lv_at hl 0 rfl) ?_
  refine W.objInit hx hb hown (hts (.methodLink R_N 3 Lib.objectInit) (by decide +kernel)) (hts (.instanceMethod Lib.objectInit) (by decide +kernel)) (hts _ (List.mem_of_getElem? (i := 3) rfl)) rfl (by rw [hml]; exact hl.1) rfl d_N_i_1 (Nat.le_of_ble_eq_true rfl) (Nat.le_of_ble_eq_true rfl) ?_
  refine W.eq (g2 := F0 m 4 ls []) rfl ?_
  refine lv_aload_n hx hb d_N_i_4 rfl (lv_at hl 0 rfl) ?_
  refine lv_bipush (v := nI 6) hx hb d_N_i_5 (by decide +kernel) ?_
  refine lv_bipush (v := nI 8) hx hb d_N_i_7 (by decide +kernel) ?_
  refine fv_mna (ty := .long) (kA := kC 4) (kB := kC 1) (N := 6) (K := 8) (z := (8, .inr (.inl (fun _ => lN 0)))) hx hb hown (by rw [mna_long]; exact hts (.classLink R_N 9 "[[J") (by decide +kernel)) hzw.2.2 (hts (.arrayClass .long) (by decide +kernel)) hK hP hD hS hA 4 1 (fun _ h => by cases h) rfl rfl (by decide +kernel) (by decide +kernel) (by decide +kernel) (by decide +kernel) (by decide +kernel) rfl rfl (Nat.le_of_ble_eq_true rfl) (Nat.le_of_ble_eq_true rfl) z_inner d_N_i_9 (fun qa1 rr9 H hP hD hS => ?_)
  refine W.cs (cells' := 7) (slots' := 54) rfl rfl ?_
  have hP : va_P D cls (fl [[(h0, .inr (6, [.null, .null, .long (lN 0), .int (nI 0)]))], [(qa1, .inl (kC 4, 6, .inr (.inr (.inr (.inr (rfO 6 rr9))))))], (pF kC rr9 (fun _ _ => 0))]) H := hP
  have hD : va_D A (fl [[(h0, .inr (6, [.null, .null, .long (lN 0), .int (nI 0)]))], [(qa1, .inl (kC 4, 6, .inr (.inr (.inr (.inr (rfO 6 rr9))))))], (pF kC rr9 (fun _ _ => 0))]) := hD
  refine fv_putF (ci := 6) (v := .ref qa1) (ty := (.array (.array .long))) (C := R_N) (T := F_N) (N := 4) hx hb hts (by decide +kernel) t_N t_N_ok n_N hown hK hP hD hS 0 0 rfl rfl rfl 0 (by decide) (hts (.fieldLink R_N 11 "PartShelves$RepairPlan" "freePrices" "[[J") (by decide +kernel)) (fun _ h9 => h9) rfl hin rfl (by decide +kernel) (rfl) (rfl) (Nat.le_of_ble_eq_true rfl) d_N_i_13 (fun H locs hP hD hS => ?_)
  have hP : va_P D cls (fl [[(h0, .inr (6, [.ref qa1, .null, .long (lN 0), .int (nI 0)]))], [(qa1, .inl (kC 4, 6, .inr (.inr (.inr (.inr (rfO 6 rr9))))))], (pF kC rr9 (fun _ _ => 0))]) H := hP
  have hD : va_D A (fl [[(h0, .inr (6, [.ref qa1, .null, .long (lN 0), .int (nI 0)]))], [(qa1, .inl (kC 4, 6, .inr (.inr (.inr (.inr (rfO 6 rr9))))))], (pF kC rr9 (fun _ _ => 0))]) := hD
  refine lv_aload_n hx hb d_N_i_16 rfl (lv_at hl 0 rfl) ?_
  refine lv_bipush (v := nI 6) hx hb d_N_i_17 (by decide +kernel) ?_
  refine fv_newa (atype := .int) (ty := .int) (kB := kC 0) (N := 6) (a0 := (6, .inl (fun _ => nI 0))) hx hb (hts (.arrayClass .int) (by decide +kernel)) rfl hK hP hD hS hA 0 rfl (fun _ h => by cases h) (z_int 6) (by decide +kernel) (by decide +kernel) (Nat.le_of_ble_eq_true rfl) (Nat.le_of_ble_eq_true rfl) d_N_i_19 (fun qa2 H hP hD hS => ?_)
  refine W.cs (cells' := 8) (slots' := 60) rfl rfl ?_
  have hP : va_P D cls (fl [[(h0, .inr (6, [.ref qa1, .null, .long (lN 0), .int (nI 0)]))], [(qa1, .inl (kC 4, 6, .inr (.inr (.inr (.inr (rfO 6 rr9))))))], (pF kC rr9 (fun _ _ => 0)), [(qa2, .inl (kC 0, 6, .inl (fun _ => nI 0)))]]) H := hP
  have hD : va_D A (fl [[(h0, .inr (6, [.ref qa1, .null, .long (lN 0), .int (nI 0)]))], [(qa1, .inl (kC 4, 6, .inr (.inr (.inr (.inr (rfO 6 rr9))))))], (pF kC rr9 (fun _ _ => 0)), [(qa2, .inl (kC 0, 6, .inl (fun _ => nI 0)))]]) := hD
  refine fv_putF (ci := 6) (v := .ref qa2) (ty := (.array .int)) (C := R_N) (T := F_N) (N := 4) hx hb hts (by decide +kernel) t_N t_N_ok n_N hown hK hP hD hS 0 0 rfl rfl rfl 1 (by decide) (hts (.fieldLink R_N 16 "PartShelves$RepairPlan" "freeCounts" "[I") (by decide +kernel)) (fun _ h9 => h9) rfl hin rfl (by decide +kernel) (rfl) (rfl) (Nat.le_of_ble_eq_true rfl) d_N_i_21 (fun H locs hP hD hS => ?_)
  have hP : va_P D cls (fl [[(h0, .inr (6, [.ref qa1, .ref qa2, .long (lN 0), .int (nI 0)]))], [(qa1, .inl (kC 4, 6, .inr (.inr (.inr (.inr (rfO 6 rr9))))))], (pF kC rr9 (fun _ _ => 0)), [(qa2, .inl (kC 0, 6, .inl (fun _ => nI 0)))]]) H := hP
  have hD : va_D A (fl [[(h0, .inr (6, [.ref qa1, .ref qa2, .long (lN 0), .int (nI 0)]))], [(qa1, .inl (kC 4, 6, .inr (.inr (.inr (.inr (rfO 6 rr9))))))], (pF kC rr9 (fun _ _ => 0)), [(qa2, .inl (kC 0, 6, .inl (fun _ => nI 0)))]]) := hD
  refine lv_aload_n hx hb d_N_i_24 rfl (lv_at hl 0 rfl) ?_
  refine lv_ldc2 (v := (-1)) hx hb hown (hts (.constantLong R_N 20 (-1)) (by decide +kernel)) d_N_i_25 ?_
  refine fv_put (ci := 6) (v := .long (-1)) (ty := (.long)) (C := R_N) (T := F_N) (N := 4) hx hb hts (by decide +kernel) t_N t_N_ok n_N hown hK hP hD hS 0 0 rfl rfl rfl 2 (by decide) (hts (.fieldLink R_N 22 "PartShelves$RepairPlan" "total" "J") (by decide +kernel)) (fun _ h9 => h9) rfl (by decide +kernel) (rfl) (rfl) (Nat.le_of_ble_eq_true rfl) d_N_i_28 (fun H locs hP hD hS => ?_)
  have hP : va_P D cls (fl [[(h0, .inr (6, [.ref qa1, .ref qa2, .long (-1), .int (nI 0)]))], [(qa1, .inl (kC 4, 6, .inr (.inr (.inr (.inr (rfO 6 rr9))))))], (pF kC rr9 (fun _ _ => 0)), [(qa2, .inl (kC 0, 6, .inl (fun _ => nI 0)))]]) H := hP
  have hD : va_D A (fl [[(h0, .inr (6, [.ref qa1, .ref qa2, .long (-1), .int (nI 0)]))], [(qa1, .inl (kC 4, 6, .inr (.inr (.inr (.inr (rfO 6 rr9))))))], (pF kC rr9 (fun _ _ => 0)), [(qa2, .inl (kC 0, 6, .inl (fun _ => nI 0)))]]) := hD
  refine lv_aload_n hx hb d_N_i_31 rfl (lv_at hl 0 rfl) ?_
  refine lv_iconst (v := nI 0) hx hb d_N_i_32 (by decide) ?_
  refine fv_put (ci := 6) (v := .int (nI 0)) (ty := (.int)) (C := R_N) (T := F_N) (N := 4) hx hb hts (by decide +kernel) t_N t_N_ok n_N hown hK hP hD hS 0 0 rfl rfl rfl 3 (by decide) (hts (.fieldLink R_N 26 "PartShelves$RepairPlan" "chosen" "I") (by decide +kernel)) (fun _ h9 => h9) rfl (by decide +kernel) (rfl) (rfl) (Nat.le_of_ble_eq_true rfl) d_N_i_33 (fun H locs hP hD hS => ?_)
  have hP : va_P D cls (fl [[(h0, .inr (6, [.ref qa1, .ref qa2, .long (-1), .int (nI 0)]))], [(qa1, .inl (kC 4, 6, .inr (.inr (.inr (.inr (rfO 6 rr9))))))], (pF kC rr9 (fun _ _ => 0)), [(qa2, .inl (kC 0, 6, .inl (fun _ => nI 0)))]]) H := hP
  have hD : va_D A (fl [[(h0, .inr (6, [.ref qa1, .ref qa2, .long (-1), .int (nI 0)]))], [(qa1, .inl (kC 4, 6, .inr (.inr (.inr (.inr (rfO 6 rr9))))))], (pF kC rr9 (fun _ _ => 0)), [(qa2, .inl (kC 0, 6, .inl (fun _ => nI 0)))]]) := hD
  have hP : va_P D cls (fl [[(h0, .inr (6, [.ref qa1, .ref qa2, .long (-1), .int (nI 0)]))], [(qa1, .inl (kC 4, 6, .inr (.inr (.inr (.inr (rfO 6 rr9))))))], [(qa2, .inl (kC 0, 6, .inl (fun _ => nI 0)))], (pF kC rr9 (fun _ _ => 0))]) H := pshP [[(h0, .inr (6, [.ref qa1, .ref qa2, .long (-1), .int (nI 0)]))], [(qa1, .inl (kC 4, 6, .inr (.inr (.inr (.inr (rfO 6 rr9))))))]] [(pF kC rr9 (fun _ _ => 0))] (P := []) (Y := [(qa2, .inl (kC 0, 6, .inl (fun _ => nI 0)))]) (P' := [(qa2, .inl (kC 0, 6, .inl (fun _ => nI 0)))]) rfl hP
  have hD : va_D A (fl [[(h0, .inr (6, [.ref qa1, .ref qa2, .long (-1), .int (nI 0)]))], [(qa1, .inl (kC 4, 6, .inr (.inr (.inr (.inr (rfO 6 rr9))))))], [(qa2, .inl (kC 0, 6, .inl (fun _ => nI 0)))], (pF kC rr9 (fun _ _ => 0))]) := pshD [[(h0, .inr (6, [.ref qa1, .ref qa2, .long (-1), .int (nI 0)]))], [(qa1, .inl (kC 4, 6, .inr (.inr (.inr (.inr (rfO 6 rr9))))))]] [(pF kC rr9 (fun _ _ => 0))] (P := []) (Y := [(qa2, .inl (kC 0, 6, .inl (fun _ => nI 0)))]) (P' := [(qa2, .inl (kC 0, 6, .inl (fun _ => nI 0)))]) rfl hD
  exact W.vret hx hb hr (fun t ht hW => by subst hAe; exact ⟨⟨((fun i => [h0, qa1, qa2].getD i 0), rr9), rfl, rfl, by rw [ht]; exact hP, va_K.moved hW.alike hK, hD⟩, hS.F ht⟩) (by subst hAe; exact hS.2.2) d_N_i_36

