/-- the reference's cells -/
def wO (kC : Nat → ClassId) (ad : Nat → Nat) (td : Nat) (rn : Nat) (pn : Nat) (an : Nat) (jn : Nat) (tn : Nat) (bm : Int32) (fw : Int64) (gp : Nat) (ga : Nat) (bp : Int32) (fc : Int64) (fj : Nat) (rA : Nat → Nat) (rC : Nat → Nat) (ft : Nat → Int32) (kd : Nat → Nat) (aG : Nat → Nat) (sR : Nat → Nat) (sT : Nat → Nat) (wh : Nat → Nat) (dY : Nat → Nat) (pd : Nat → Nat) (cN : Nat → Nat) (mN : Nat → Nat) (sv : Nat → Int32) (nd : Nat → Nat) (wr : Nat → Nat) (tl : Nat → Nat) (lt : Nat → Int32) (lT : Nat → Nat) (lD : Nat → Nat) (gv : Nat → Int32) (gn : Nat → Int64) (od : Nat → Nat) (br : Nat → Nat) : va_W := [(ad 0, .inr (7, [.int (nI td), .int (nI rn), .ref (ad 1), .ref (ad 2), .ref (ad 3), .int (nI pn), .ref (ad 4), .ref (ad 5), .ref (ad 6), .ref (ad 7), .ref (ad 8), .ref (ad 9), .int (nI an), .ref (ad 10), .ref (ad 11), .ref (ad 12), .ref (ad 13), .int (nI jn), .ref (ad 14), .ref (ad 15), .int (nI tn), .ref (ad 16), .ref (ad 17), .ref (ad 18), .ref (ad 19), .int (bm), .long (fw), .ref (ad 20), .int (nI gp), .int (nI ga), .ref (ad 21), .int (bp), .long (fc), .int (nI fj), .ref (ad 22), .ref (ad 23)])), (ad 1, .inl (kC 0, 6, .inl (fun j => nI (rA j)))), (ad 2, .inl (kC 1, 6, .inr (.inl (fun j => lN (rC j))))), (ad 3, .inl (kC 2, 36, .inl ft)), (ad 4, .inl (kC 0, 8, .inl (fun j => nI (kd j)))), (ad 5, .inl (kC 0, 8, .inl (fun j => nI (aG j)))), (ad 6, .inl (kC 1, 8, .inr (.inl (fun j => lN (sR j))))), (ad 7, .inl (kC 0, 8, .inl (fun j => nI (sT j)))), (ad 8, .inl (kC 0, 8, .inl (fun j => nI (wh j)))), (ad 9, .inl (kC 0, 8, .inl (fun j => nI (dY j)))), (ad 10, .inl (kC 0, 8, .inl (fun j => nI (pd j)))), (ad 11, .inl (kC 1, 8, .inr (.inl (fun j => lN (cN j))))), (ad 12, .inl (kC 1, 8, .inr (.inl (fun j => lN (mN j))))), (ad 13, .inl (kC 2, 8, .inl sv)), (ad 14, .inl (kC 0, 36, .inl (fun j => nI (nd j)))), (ad 15, .inl (kC 0, 6, .inl (fun j => nI (wr j)))), (ad 16, .inl (kC 0, 8, .inl (fun j => nI (tl j)))), (ad 17, .inl (kC 2, 4, .inl lt)), (ad 18, .inl (kC 0, 4, .inl (fun j => nI (lT j)))), (ad 19, .inl (kC 0, 4, .inl (fun j => nI (lD j)))), (ad 20, .inl (kC 0, 8, .inl gv)), (ad 21, .inl (kC 1, 16, .inr (.inl gn))), (ad 22, .inl (kC 0, 8, .inl (fun j => nI (od j)))), (ad 23, .inl (kC 1, 2304, .inr (.inl (fun j => lN (br j)))))]
/-! arguments in ranges -/
abbrev inI (a b : Nat) (x : Int32) : Prop := (a : Int) ≤ x.toInt ∧ x.toInt ≤ (b : Int)
abbrev inL (a b : Nat) (x : Int64) : Prop := (a : Int) ≤ x.toInt ∧ x.toInt ≤ (b : Int)
abbrev nOf (x : Int32) : Nat := x.toInt.toNat
abbrev nOfL (x : Int64) : Nat := x.toInt.toNat
theorem inL_i {a b : Nat} {x : Int32} : inL a b x.toInt64 ↔ inI a b x := by unfold inL inI; rw [Int32.toInt_toInt64]
theorem inI_n {a b : Nat} {x : Int32} (hb : b < 2 ^ 31) (h : inI a b x) : ∃ j : Nat, a ≤ j ∧ j ≤ b ∧ x = nI j := by
  refine ⟨x.toInt.toNat, by omega, by omega, ?_⟩
  apply Int32.toInt_inj.mp
  rw [nI_toInt (by omega)]
  omega
theorem inL_n {a b : Nat} {x : Int64} (hb : b < 2 ^ 31) (h : inL a b x) : ∃ j : Nat, a ≤ j ∧ j ≤ b ∧ x = lN j := by
  refine ⟨x.toInt.toNat, by omega, by omega, ?_⟩
  apply Int64.toInt_inj.mp
  rw [lN_toInt (by omega)]
  omega
theorem inR_n {x : Int32} {n : Nat} (hn : n < 2 ^ 31) (h : inR x n) : ∃ j : Nat, j < n ∧ x = nI j := by
  refine ⟨x.toInt.toNat, by omega, ?_⟩
  apply Int32.toInt_inj.mp
  rw [nI_toInt (by omega)]
  omega
theorem nOf_nI {j : Nat} (h : j < 2 ^ 31) : nOf (nI j) = j := by unfold nOf; rw [nI_toInt h]; rfl
theorem nOfL_lN {j : Nat} (h : j < 2 ^ 31) : nOfL (lN j) = j := by unfold nOfL; rw [lN_toInt h]; rfl
theorem lN_leI {a : Nat} (ha : a < 2 ^ 31) {x : Int64} : lN a ≤ x ↔ (a : Int) ≤ x.toInt := by rw [Int64.le_iff_toInt_le, lN_toInt ha]
theorem lN_leI' {a : Nat} (ha : a < 2 ^ 31) {x : Int64} : x ≤ lN a ↔ x.toInt ≤ (a : Int) := by rw [Int64.le_iff_toInt_le, lN_toInt ha]
/-- the price by the rows: the last row that is not above the age -/
def prM (rA rC : Nat → Nat) (x : Nat) : Nat → Nat
  | 0 => 0
  | i + 1 => if rA i ≤ x then rC i else prM rA rC x i
theorem prM_le {rA rC : Nat → Nat} {x B : Nat} (h : ∀ j, rC j ≤ B) : ∀ n, prM rA rC x n ≤ B
  | 0 => Nat.zero_le _
  | n + 1 => by
    show (if rA n ≤ x then rC n else prM rA rC x n) ≤ B
    split
    · exact h n
    · exact prM_le h n
/-- an ask is open -/
abbrev opn (sv : Nat → Int32) (an : Nat) (x : Int32) : Prop := inR x an ∧ sv x.toNatClampNeg = 0
theorem opn_nI {sv : Nat → Int32} {an k : Nat} (hk : k < 2 ^ 31) : opn sv an (nI k) ↔ k < an ∧ sv k = 0 := by
  unfold opn
  rw [inR_nI hk, nI_clamp hk]
/-- a part and an ask are a pair now -/
abbrev prsO (td rn an : Nat) (rA rC : Nat → Nat) (ft : Nat → Int32) (kd aG sT wh dY pd cN : Nat → Nat) (sv : Nat → Int32) (q a : Nat) : Prop :=
  (stOn (sT q) (dY q) td = 0 ∨ (stOn (sT q) (dY q) td = 1 ∧ wh q = a)) ∧ (a < an ∧ sv a = 0) ∧ ¬ ft (6 * kd q + pd a) = 0 ∧ prM rA rC (aG q) rn ≤ cN a
abbrev b_O_isIn : ByteArray := prog_9_method_3_code
def y_O_isIn : MethodName := ⟨"PartShelvesModel", "isIn", "(JJJ)Z"⟩
theorem d_O_isIn_0 : decode b_O_isIn 0 = .ok (.lload_n 0, 1) := by decide +kernel
theorem d_O_isIn_1 : decode b_O_isIn 1 = .ok (.lload_n 2, 1) := by decide +kernel
theorem d_O_isIn_2 : decode b_O_isIn 2 = .ok (.lcmp, 1) := by decide +kernel
theorem d_O_isIn_3 : decode b_O_isIn 3 = .ok (.ifCond .lt 14, 3) := by decide +kernel
theorem d_O_isIn_6 : decode b_O_isIn 6 = .ok (.lload_n 0, 1) := by decide +kernel
theorem d_O_isIn_7 : decode b_O_isIn 7 = .ok (.lload 4, 2) := by decide +kernel
theorem d_O_isIn_9 : decode b_O_isIn 9 = .ok (.lcmp, 1) := by decide +kernel
theorem d_O_isIn_10 : decode b_O_isIn 10 = .ok (.ifCond .gt 7, 3) := by decide +kernel
theorem d_O_isIn_13 : decode b_O_isIn 13 = .ok (.iconst 1, 1) := by decide +kernel
theorem d_O_isIn_14 : decode b_O_isIn 14 = .ok (.goto 4, 3) := by decide +kernel
theorem d_O_isIn_17 : decode b_O_isIn 17 = .ok (.iconst 0, 1) := by decide +kernel
theorem d_O_isIn_18 : decode b_O_isIn 18 = .ok (.ireturn, 1) := by decide +kernel
def w_O_isIn : List Cond := .code y_O_isIn b_O_isIn 6 (some .boolean) :: ([])
set_option maxHeartbeats 4000000 in
set_option maxRecDepth 100000 in
theorem c_O_isIn (l : Launch) (x : Int64) (a : Nat) (b : Nat) (ha : a < 2 ^ 31) (hb2 : b < 2 ^ 31) : Met l y_O_isIn w_O_isIn ({ frames := 0, cells := 0, slots := 0, locals := 0 } : Room) (gP0 [.long x, .long (lN a), .long (lN b)]) (vp_Si (fun r => r = bI (inL a b x))) 0 0 (fun _ => False) := by
  refine Met.ofW (cc := b_O_isIn) (maxL := 6) (ret := (some .boolean)) (by decide) rfl ?_
  intro p e s m args below meth c s₁ B hml hv
  obtain rfl := hv
  have hx := B.exec
  have hb := B.bytes
  have hr := B.returns
  have hts := atoms_spec (ws := w_O_isIn) B.pre
  have hown : s.vm.findClass R_O = some m.cls := findClass_of_methodNamed B.named
  have hlocks := B.notSynchronized
  have hl := lv_entry ([.long x, .long (lN a), .long (lN b)]) (n := 6) (Nat.le_of_ble_eq_true rfl)
  rw [lg_entry_eq]
  generalize (lg_sl ([.long x, .long (lN a), .long (lN b)]) ++ List.replicate (6 - (lg_sl ([.long x, .long (lN a), .long (lN b)])).length) Slot.unset).toArray = ls at hl ⊢
  have hl : lv_has ls 6 [(0, .long x), (2, .long (lN a)), (4, .long (lN b))] := hl
  refine lv_lload_n hx hb d_O_isIn_0 rfl (lv_at hl 0 rfl) ?_
  refine lv_lload_n hx hb d_O_isIn_1 rfl (lv_at hl 1 rfl) ?_
  refine lc_lt (tgt := 17) hx hb d_O_isIn_2 d_O_isIn_3 (by decide) (fun h1 => ?_) (fun h1 => ?_)
  · refine lv_iconst (v := nI 0) hx hb d_O_isIn_17 (by decide) ?_
    exact W.zret (v := nI 0) hx hb hr (nar_b (by first | exact Or.inl rfl | exact Or.inr rfl | exact bI_01)) (fun t ht hW => ⟨_, rfl, (bI_f (fun q => by first | exact absurd ((lN_leI' hb2).mpr q.2) (by simpa using h2) | exact absurd ((lN_leI ha).mpr q.1) (by simpa using h1))).symm, ht⟩) t_nil d_O_isIn_18
  · refine lv_lload_n hx hb d_O_isIn_6 rfl (lv_at hl 0 rfl) ?_
    refine lv_lload hx hb d_O_isIn_7 (lv_at hl 2 rfl) ?_
    refine lc_gt (tgt := 17) hx hb d_O_isIn_9 d_O_isIn_10 (by decide) (fun h2 => ?_) (fun h2 => ?_)
    · refine lv_iconst (v := nI 0) hx hb d_O_isIn_17 (by decide) ?_
      exact W.zret (v := nI 0) hx hb hr (nar_b (by first | exact Or.inl rfl | exact Or.inr rfl | exact bI_01)) (fun t ht hW => ⟨_, rfl, (bI_f (fun q => by first | exact absurd ((lN_leI' hb2).mpr q.2) (by simpa using h2) | exact absurd ((lN_leI ha).mpr q.1) (by simpa using h1))).symm, ht⟩) t_nil d_O_isIn_18
    · refine lv_iconst (v := nI 1) hx hb d_O_isIn_13 (by decide) ?_
      refine lv_goto (tgt := 18) hx hb d_O_isIn_14 (by decide) ?_
      exact W.zret (v := nI 1) hx hb hr (nar_b (by first | exact Or.inl rfl | exact Or.inr rfl | exact bI_01)) (fun t ht hW => ⟨_, rfl, (bI_t ⟨(lN_leI ha).mp (by simpa using h1), (lN_leI' hb2).mp (by simpa using h2)⟩).symm, ht⟩) t_nil d_O_isIn_18

abbrev b_O_isKind : ByteArray := prog_9_method_4_code
def y_O_isKind : MethodName := ⟨"PartShelvesModel", "isKind", "(I)Z"⟩
theorem d_O_isKind_0 : decode b_O_isKind 0 = .ok (.iload_n 0, 1) := by decide +kernel
theorem d_O_isKind_1 : decode b_O_isKind 1 = .ok (.ifCond .lt 13, 3) := by decide +kernel
theorem d_O_isKind_4 : decode b_O_isKind 4 = .ok (.iload_n 0, 1) := by decide +kernel
theorem d_O_isKind_5 : decode b_O_isKind 5 = .ok (.bipush 6, 2) := by decide +kernel
theorem d_O_isKind_7 : decode b_O_isKind 7 = .ok (.if_icmp .ge 7, 3) := by decide +kernel
theorem d_O_isKind_10 : decode b_O_isKind 10 = .ok (.iconst 1, 1) := by decide +kernel
theorem d_O_isKind_11 : decode b_O_isKind 11 = .ok (.goto 4, 3) := by decide +kernel
theorem d_O_isKind_14 : decode b_O_isKind 14 = .ok (.iconst 0, 1) := by decide +kernel
theorem d_O_isKind_15 : decode b_O_isKind 15 = .ok (.ireturn, 1) := by decide +kernel
def w_O_isKind : List Cond := .code y_O_isKind b_O_isKind 1 (some .boolean) :: ([])
set_option maxHeartbeats 4000000 in
set_option maxRecDepth 100000 in
theorem c_O_isKind (l : Launch) (x : Int32) : Met l y_O_isKind w_O_isKind ({ frames := 0, cells := 0, slots := 0, locals := 0 } : Room) (gP0 [.int x]) (vp_Si (fun r => r = bI (inR x 6))) 0 0 (fun _ => False) := by
  refine Met.ofW (cc := b_O_isKind) (maxL := 1) (ret := (some .boolean)) (by decide) rfl ?_
  intro p e s m args below meth c s₁ B hml hv
  obtain rfl := hv
  have hx := B.exec
  have hb := B.bytes
  have hr := B.returns
  have hts := atoms_spec (ws := w_O_isKind) B.pre
  have hown : s.vm.findClass R_O = some m.cls := findClass_of_methodNamed B.named
  have hlocks := B.notSynchronized
  have hl := lv_entry ([.int x]) (n := 1) (Nat.le_of_ble_eq_true rfl)
  rw [lg_entry_eq]
  generalize (lg_sl ([.int x]) ++ List.replicate (1 - (lg_sl ([.int x])).length) Slot.unset).toArray = ls at hl ⊢
  have hl : lv_has ls 1 [(0, .int x)] := hl
  refine lv_iload_n hx hb d_O_isKind_0 rfl (lv_at hl 0 rfl) ?_
  refine lv_if_lt (tgt := 14) hx hb d_O_isKind_1 (by decide) (fun h0 => ?_) (fun h0 => ?_)
  · refine lv_iconst (v := nI 0) hx hb d_O_isKind_14 (by decide) ?_
    exact W.zret (v := nI 0) hx hb hr (nar_b (by first | exact Or.inl rfl | exact Or.inr rfl | exact bI_01)) (fun t ht hW => ⟨_, rfl, (bI_f (by first | exact inR_ge (by decide) h1 | exact inR_lt h0)).symm, ht⟩) t_nil d_O_isKind_15
  · refine lv_iload_n hx hb d_O_isKind_4 rfl (lv_at hl 0 rfl) ?_
    refine lv_bipush (v := nI 6) hx hb d_O_isKind_5 (by decide +kernel) ?_
    refine lv_icmp_ge (tgt := 14) hx hb d_O_isKind_7 (by decide) (fun h1 => ?_) (fun h1 => ?_)
    · refine lv_iconst (v := nI 0) hx hb d_O_isKind_14 (by decide) ?_
      exact W.zret (v := nI 0) hx hb hr (nar_b (by first | exact Or.inl rfl | exact Or.inr rfl | exact bI_01)) (fun t ht hW => ⟨_, rfl, (bI_f (by first | exact inR_ge (by decide) h1 | exact inR_lt h0)).symm, ht⟩) t_nil d_O_isKind_15
    · refine lv_iconst (v := nI 1) hx hb d_O_isKind_10 (by decide) ?_
      refine lv_goto (tgt := 15) hx hb d_O_isKind_11 (by decide) ?_
      exact W.zret (v := nI 1) hx hb hr (nar_b (by first | exact Or.inl rfl | exact Or.inr rfl | exact bI_01)) (fun t ht hW => ⟨_, rfl, (bI_t (by obtain ⟨j, hj, rfl⟩ := in_of (by decide) h0 h1; exact (inR_nI (by omega)).mpr hj)).symm, ht⟩) t_nil d_O_isKind_15

abbrev b_O_isPerson : ByteArray := prog_9_method_5_code
def y_O_isPerson : MethodName := ⟨"PartShelvesModel", "isPerson", "(I)Z"⟩
theorem d_O_isPerson_0 : decode b_O_isPerson 0 = .ok (.iload_n 0, 1) := by decide +kernel
theorem d_O_isPerson_1 : decode b_O_isPerson 1 = .ok (.ifCond .lt 13, 3) := by decide +kernel
theorem d_O_isPerson_4 : decode b_O_isPerson 4 = .ok (.iload_n 0, 1) := by decide +kernel
theorem d_O_isPerson_5 : decode b_O_isPerson 5 = .ok (.bipush 10, 2) := by decide +kernel
theorem d_O_isPerson_7 : decode b_O_isPerson 7 = .ok (.if_icmp .ge 7, 3) := by decide +kernel
theorem d_O_isPerson_10 : decode b_O_isPerson 10 = .ok (.iconst 1, 1) := by decide +kernel
theorem d_O_isPerson_11 : decode b_O_isPerson 11 = .ok (.goto 4, 3) := by decide +kernel
theorem d_O_isPerson_14 : decode b_O_isPerson 14 = .ok (.iconst 0, 1) := by decide +kernel
theorem d_O_isPerson_15 : decode b_O_isPerson 15 = .ok (.ireturn, 1) := by decide +kernel
def w_O_isPerson : List Cond := .code y_O_isPerson b_O_isPerson 1 (some .boolean) :: ([])
set_option maxHeartbeats 4000000 in
set_option maxRecDepth 100000 in
theorem c_O_isPerson (l : Launch) (x : Int32) : Met l y_O_isPerson w_O_isPerson ({ frames := 0, cells := 0, slots := 0, locals := 0 } : Room) (gP0 [.int x]) (vp_Si (fun r => r = bI (inR x 10))) 0 0 (fun _ => False) := by
  refine Met.ofW (cc := b_O_isPerson) (maxL := 1) (ret := (some .boolean)) (by decide) rfl ?_
  intro p e s m args below meth c s₁ B hml hv
  obtain rfl := hv
  have hx := B.exec
  have hb := B.bytes
  have hr := B.returns
  have hts := atoms_spec (ws := w_O_isPerson) B.pre
  have hown : s.vm.findClass R_O = some m.cls := findClass_of_methodNamed B.named
  have hlocks := B.notSynchronized
  have hl := lv_entry ([.int x]) (n := 1) (Nat.le_of_ble_eq_true rfl)
  rw [lg_entry_eq]
  generalize (lg_sl ([.int x]) ++ List.replicate (1 - (lg_sl ([.int x])).length) Slot.unset).toArray = ls at hl ⊢
  have hl : lv_has ls 1 [(0, .int x)] := hl
  refine lv_iload_n hx hb d_O_isPerson_0 rfl (lv_at hl 0 rfl) ?_
  refine lv_if_lt (tgt := 14) hx hb d_O_isPerson_1 (by decide) (fun h0 => ?_) (fun h0 => ?_)
  · refine lv_iconst (v := nI 0) hx hb d_O_isPerson_14 (by decide) ?_
    exact W.zret (v := nI 0) hx hb hr (nar_b (by first | exact Or.inl rfl | exact Or.inr rfl | exact bI_01)) (fun t ht hW => ⟨_, rfl, (bI_f (by first | exact inR_ge (by decide) h1 | exact inR_lt h0)).symm, ht⟩) t_nil d_O_isPerson_15
  · refine lv_iload_n hx hb d_O_isPerson_4 rfl (lv_at hl 0 rfl) ?_
    refine lv_bipush (v := nI 10) hx hb d_O_isPerson_5 (by decide +kernel) ?_
    refine lv_icmp_ge (tgt := 14) hx hb d_O_isPerson_7 (by decide) (fun h1 => ?_) (fun h1 => ?_)
    · refine lv_iconst (v := nI 0) hx hb d_O_isPerson_14 (by decide) ?_
      exact W.zret (v := nI 0) hx hb hr (nar_b (by first | exact Or.inl rfl | exact Or.inr rfl | exact bI_01)) (fun t ht hW => ⟨_, rfl, (bI_f (by first | exact inR_ge (by decide) h1 | exact inR_lt h0)).symm, ht⟩) t_nil d_O_isPerson_15
    · refine lv_iconst (v := nI 1) hx hb d_O_isPerson_10 (by decide) ?_
      refine lv_goto (tgt := 15) hx hb d_O_isPerson_11 (by decide) ?_
      exact W.zret (v := nI 1) hx hb hr (nar_b (by first | exact Or.inl rfl | exact Or.inr rfl | exact bI_01)) (fun t ht hW => ⟨_, rfl, (bI_t (by obtain ⟨j, hj, rfl⟩ := in_of (by decide) h0 h1; exact (inR_nI (by omega)).mpr hj)).symm, ht⟩) t_nil d_O_isPerson_15

abbrev b_O_isPart : ByteArray := prog_9_method_6_code
def y_O_isPart : MethodName := ⟨"PartShelvesModel", "isPart", "(I)Z"⟩
theorem d_O_isPart_0 : decode b_O_isPart 0 = .ok (.iload_n 1, 1) := by decide +kernel
theorem d_O_isPart_1 : decode b_O_isPart 1 = .ok (.ifCond .lt 15, 3) := by decide +kernel
theorem d_O_isPart_4 : decode b_O_isPart 4 = .ok (.iload_n 1, 1) := by decide +kernel
theorem d_O_isPart_5 : decode b_O_isPart 5 = .ok (.aload_n 0, 1) := by decide +kernel
theorem d_O_isPart_6 : decode b_O_isPart 6 = .ok (.getfield 81, 3) := by decide +kernel
theorem d_O_isPart_9 : decode b_O_isPart 9 = .ok (.if_icmp .ge 7, 3) := by decide +kernel
theorem d_O_isPart_12 : decode b_O_isPart 12 = .ok (.iconst 1, 1) := by decide +kernel
theorem d_O_isPart_13 : decode b_O_isPart 13 = .ok (.goto 4, 3) := by decide +kernel
theorem d_O_isPart_16 : decode b_O_isPart 16 = .ok (.iconst 0, 1) := by decide +kernel
theorem d_O_isPart_17 : decode b_O_isPart 17 = .ok (.ireturn, 1) := by decide +kernel
def w_O_isPart : List Cond := .code y_O_isPart b_O_isPart 2 (some .boolean) :: ([.fieldLink "PartShelvesModel" 81 "PartShelvesModel" "parts" "I"] ++ u_ws R_O F_O 36)
set_option maxHeartbeats 4000000 in
set_option maxRecDepth 100000 in
theorem c_O_isPart (l : Launch) (D : va_G) (kC : Nat → ClassId) (ad : Nat → Nat) (td : Nat) (rn : Nat) (pn : Nat) (an : Nat) (jn : Nat) (tn : Nat) (bm : Int32) (fw : Int64) (gp : Nat) (ga : Nat) (bp : Int32) (fc : Int64) (fj : Nat) (rA : Nat → Nat) (rC : Nat → Nat) (ft : Nat → Int32) (kd : Nat → Nat) (aG : Nat → Nat) (sR : Nat → Nat) (sT : Nat → Nat) (wh : Nat → Nat) (dY : Nat → Nat) (pd : Nat → Nat) (cN : Nat → Nat) (mN : Nat → Nat) (sv : Nat → Int32) (nd : Nat → Nat) (wr : Nat → Nat) (tl : Nat → Nat) (lt : Nat → Int32) (lT : Nat → Nat) (lD : Nat → Nat) (gv : Nat → Int32) (gn : Nat → Int64) (od : Nat → Nat) (br : Nat → Nat) (x : Int32) (hpn : pn ≤ 8) : Met l y_O_isPart w_O_isPart ({ frames := 0, cells := 0, slots := 0, locals := 0 } : Room) (gPr cls D (tyL kC) [.ref (ad 0), .int x] (fl [(wO kC ad td rn pn an jn tn bm fw gp ga bp fc fj rA rC ft kd aG sR sT wh dY pd cN mN sv nd wr tl lt lT lD gv gn od br)])) (vp_Si (fun r => r = bI (inR x pn))) 0 0 (fun _ => False) := by
  refine Met.ofW (cc := b_O_isPart) (maxL := 2) (ret := (some .boolean)) (by decide) rfl ?_
  intro p e s m args below meth c s₁ B hml hv
  obtain ⟨rfl, hP, hK⟩ := hv
  have hx := B.exec
  have hb := B.bytes
  have hr := B.returns
  have hts := atoms_spec (ws := w_O_isPart) B.pre
  have hown : s.vm.findClass R_O = some m.cls := findClass_of_methodNamed B.named
  have hlocks := B.notSynchronized
  have hl := lv_entry ([.ref (ad 0), .int x]) (n := 2) (Nat.le_of_ble_eq_true rfl)
  rw [lg_entry_eq]
  generalize (lg_sl ([.ref (ad 0), .int x]) ++ List.replicate (2 - (lg_sl ([.ref (ad 0), .int x])).length) Slot.unset).toArray = ls at hl ⊢
  have hl : lv_has ls 2 [(0, .ref (ad 0)), (1, .int x)] := hl
  refine lv_iload_n hx hb d_O_isPart_0 rfl (lv_at hl 1 rfl) ?_
  refine lv_if_lt (tgt := 16) hx hb d_O_isPart_1 (by decide) (fun h0 => ?_) (fun h0 => ?_)
  · refine lv_iconst (v := nI 0) hx hb d_O_isPart_16 (by decide) ?_
    exact W.zret (v := nI 0) hx hb hr (nar_b (by first | exact Or.inl rfl | exact Or.inr rfl | exact bI_01)) (fun t ht hW => ⟨_, rfl, (bI_f (by first | exact inR_ge (by omega) h1 | exact inR_lt h0)).symm, ht⟩) t_nil d_O_isPart_17
  · refine lv_iload_n hx hb d_O_isPart_4 rfl (lv_at hl 1 rfl) ?_
    refine lv_aload_n hx hb d_O_isPart_5 rfl (lv_at hl 0 rfl) ?_
    refine fv_get (ci := 7) (v := .int (nI pn)) (C := R_O) (T := F_O) (N := 36) hx hb hts (by decide +kernel) hown hK hP 0 0 rfl rfl rfl 5 (by decide) (hts (.fieldLink R_O 81 "PartShelvesModel" "parts" "I") (by decide +kernel)) (fun _ h9 => h9) rfl d_O_isPart_6 ?_
    refine lv_icmp_ge (tgt := 16) hx hb d_O_isPart_9 (by decide) (fun h1 => ?_) (fun h1 => ?_)
    · refine lv_iconst (v := nI 0) hx hb d_O_isPart_16 (by decide) ?_
      exact W.zret (v := nI 0) hx hb hr (nar_b (by first | exact Or.inl rfl | exact Or.inr rfl | exact bI_01)) (fun t ht hW => ⟨_, rfl, (bI_f (by first | exact inR_ge (by omega) h1 | exact inR_lt h0)).symm, ht⟩) t_nil d_O_isPart_17
    · refine lv_iconst (v := nI 1) hx hb d_O_isPart_12 (by decide) ?_
      refine lv_goto (tgt := 17) hx hb d_O_isPart_13 (by decide) ?_
      exact W.zret (v := nI 1) hx hb hr (nar_b (by first | exact Or.inl rfl | exact Or.inr rfl | exact bI_01)) (fun t ht hW => ⟨_, rfl, (bI_t (by obtain ⟨j, hj, rfl⟩ := in_of (by omega) h0 h1; exact (inR_nI (by omega)).mpr hj)).symm, ht⟩) t_nil d_O_isPart_17

abbrev b_O_isOpen : ByteArray := prog_9_method_7_code
def y_O_isOpen : MethodName := ⟨"PartShelvesModel", "isOpen", "(I)Z"⟩
theorem d_O_isOpen_0 : decode b_O_isOpen 0 = .ok (.iload_n 1, 1) := by decide +kernel
theorem d_O_isOpen_1 : decode b_O_isOpen 1 = .ok (.ifCond .lt 24, 3) := by decide +kernel
theorem d_O_isOpen_4 : decode b_O_isOpen 4 = .ok (.iload_n 1, 1) := by decide +kernel
theorem d_O_isOpen_5 : decode b_O_isOpen 5 = .ok (.aload_n 0, 1) := by decide +kernel
theorem d_O_isOpen_6 : decode b_O_isOpen 6 = .ok (.getfield 85, 3) := by decide +kernel
theorem d_O_isOpen_9 : decode b_O_isOpen 9 = .ok (.if_icmp .ge 16, 3) := by decide +kernel
theorem d_O_isOpen_12 : decode b_O_isOpen 12 = .ok (.aload_n 0, 1) := by decide +kernel
theorem d_O_isOpen_13 : decode b_O_isOpen 13 = .ok (.getfield 48, 3) := by decide +kernel
theorem d_O_isOpen_16 : decode b_O_isOpen 16 = .ok (.iload_n 1, 1) := by decide +kernel
theorem d_O_isOpen_17 : decode b_O_isOpen 17 = .ok (.baload, 1) := by decide +kernel
theorem d_O_isOpen_18 : decode b_O_isOpen 18 = .ok (.ifCond .ne 7, 3) := by decide +kernel
theorem d_O_isOpen_21 : decode b_O_isOpen 21 = .ok (.iconst 1, 1) := by decide +kernel
theorem d_O_isOpen_22 : decode b_O_isOpen 22 = .ok (.goto 4, 3) := by decide +kernel
theorem d_O_isOpen_25 : decode b_O_isOpen 25 = .ok (.iconst 0, 1) := by decide +kernel
theorem d_O_isOpen_26 : decode b_O_isOpen 26 = .ok (.ireturn, 1) := by decide +kernel
def w_O_isOpen : List Cond := .code y_O_isOpen b_O_isOpen 2 (some .boolean) :: ([.fieldLink "PartShelvesModel" 85 "PartShelvesModel" "asks" "I", .fieldLink "PartShelvesModel" 48 "PartShelvesModel" "served" "[Z"] ++ u_ws R_O F_O 36)
set_option maxHeartbeats 4000000 in
set_option maxRecDepth 100000 in
theorem c_O_isOpen (l : Launch) (D : va_G) (kC : Nat → ClassId) (ad : Nat → Nat) (td : Nat) (rn : Nat) (pn : Nat) (an : Nat) (jn : Nat) (tn : Nat) (bm : Int32) (fw : Int64) (gp : Nat) (ga : Nat) (bp : Int32) (fc : Int64) (fj : Nat) (rA : Nat → Nat) (rC : Nat → Nat) (ft : Nat → Int32) (kd : Nat → Nat) (aG : Nat → Nat) (sR : Nat → Nat) (sT : Nat → Nat) (wh : Nat → Nat) (dY : Nat → Nat) (pd : Nat → Nat) (cN : Nat → Nat) (mN : Nat → Nat) (sv : Nat → Int32) (nd : Nat → Nat) (wr : Nat → Nat) (tl : Nat → Nat) (lt : Nat → Int32) (lT : Nat → Nat) (lD : Nat → Nat) (gv : Nat → Int32) (gn : Nat → Int64) (od : Nat → Nat) (br : Nat → Nat) (x : Int32) (han : an ≤ 8) : Met l y_O_isOpen w_O_isOpen ({ frames := 0, cells := 0, slots := 0, locals := 0 } : Room) (gPr cls D (tyL kC) [.ref (ad 0), .int x] (fl [(wO kC ad td rn pn an jn tn bm fw gp ga bp fc fj rA rC ft kd aG sR sT wh dY pd cN mN sv nd wr tl lt lT lD gv gn od br)])) (vp_Si (fun r => r = bI (opn sv an x))) 0 0 (fun _ => False) := by
  refine Met.ofW (cc := b_O_isOpen) (maxL := 2) (ret := (some .boolean)) (by decide) rfl ?_
  intro p e s m args below meth c s₁ B hml hv
  obtain ⟨rfl, hP, hK⟩ := hv
  have hx := B.exec
  have hb := B.bytes
  have hr := B.returns
  have hts := atoms_spec (ws := w_O_isOpen) B.pre
  have hown : s.vm.findClass R_O = some m.cls := findClass_of_methodNamed B.named
  have hlocks := B.notSynchronized
  have hl := lv_entry ([.ref (ad 0), .int x]) (n := 2) (Nat.le_of_ble_eq_true rfl)
  rw [lg_entry_eq]
  generalize (lg_sl ([.ref (ad 0), .int x]) ++ List.replicate (2 - (lg_sl ([.ref (ad 0), .int x])).length) Slot.unset).toArray = ls at hl ⊢
  have hl : lv_has ls 2 [(0, .ref (ad 0)), (1, .int x)] := hl
  refine lv_iload_n hx hb d_O_isOpen_0 rfl (lv_at hl 1 rfl) ?_
  refine lv_if_lt (tgt := 25) hx hb d_O_isOpen_1 (by decide) (fun h0 => ?_) (fun h0 => ?_)
  · refine lv_iconst (v := nI 0) hx hb d_O_isOpen_25 (by decide) ?_
    exact W.zret (v := nI 0) hx hb hr (nar_b (by first | exact Or.inl rfl | exact Or.inr rfl | exact bI_01)) (fun t ht hW => ⟨_, rfl, (bI_f (fun q => by first | exact h2 ((opn_nI (by omega)).mp q).2 | exact inR_ge (by omega) h1 q.1 | exact inR_lt h0 q.1)).symm, ht⟩) t_nil d_O_isOpen_26
  · refine lv_iload_n hx hb d_O_isOpen_4 rfl (lv_at hl 1 rfl) ?_
    refine lv_aload_n hx hb d_O_isOpen_5 rfl (lv_at hl 0 rfl) ?_
    refine fv_get (ci := 7) (v := .int (nI an)) (C := R_O) (T := F_O) (N := 36) hx hb hts (by decide +kernel) hown hK hP 0 0 rfl rfl rfl 12 (by decide) (hts (.fieldLink R_O 85 "PartShelvesModel" "asks" "I") (by decide +kernel)) (fun _ h9 => h9) rfl d_O_isOpen_6 ?_
    refine lv_icmp_ge (tgt := 25) hx hb d_O_isOpen_9 (by decide) (fun h1 => ?_) (fun h1 => ?_)
    · refine lv_iconst (v := nI 0) hx hb d_O_isOpen_25 (by decide) ?_
      exact W.zret (v := nI 0) hx hb hr (nar_b (by first | exact Or.inl rfl | exact Or.inr rfl | exact bI_01)) (fun t ht hW => ⟨_, rfl, (bI_f (fun q => by first | exact h2 ((opn_nI (by omega)).mp q).2 | exact inR_ge (by omega) h1 q.1 | exact inR_lt h0 q.1)).symm, ht⟩) t_nil d_O_isOpen_26
    · obtain ⟨j, hj, rfl⟩ := in_of (by omega) h0 h1
      refine lv_aload_n hx hb d_O_isOpen_12 rfl (lv_at hl 0 rfl) ?_
      refine fv_get (ci := 7) (v := .ref (ad 13)) (C := R_O) (T := F_O) (N := 36) hx hb hts (by decide +kernel) hown hK hP 0 0 rfl rfl rfl 16 (by decide) (hts (.fieldLink R_O 48 "PartShelvesModel" "served" "[Z") (by decide +kernel)) (fun _ h9 => h9) rfl d_O_isOpen_13 ?_
      refine lv_iload_n hx hb d_O_isOpen_16 rfl (lv_at hl 1 rfl) ?_
      refine fa_zald hx hb hK hP 0 13 2 rfl rfl rfl (by omega) (by decide) d_O_isOpen_17 ?_
      refine lv_if_ne (tgt := 25) hx hb d_O_isOpen_18 (by decide) (fun h2 => ?_) (fun h2 => ?_)
      · refine lv_iconst (v := nI 0) hx hb d_O_isOpen_25 (by decide) ?_
        exact W.zret (v := nI 0) hx hb hr (nar_b (by first | exact Or.inl rfl | exact Or.inr rfl | exact bI_01)) (fun t ht hW => ⟨_, rfl, (bI_f (fun q => by first | exact h2 ((opn_nI (by omega)).mp q).2 | exact inR_ge (by omega) h1 q.1 | exact inR_lt h0 q.1)).symm, ht⟩) t_nil d_O_isOpen_26
      · refine lv_iconst (v := nI 1) hx hb d_O_isOpen_21 (by decide) ?_
        refine lv_goto (tgt := 26) hx hb d_O_isOpen_22 (by decide) ?_
        exact W.zret (v := nI 1) hx hb hr (nar_b (by first | exact Or.inl rfl | exact Or.inr rfl | exact bI_01)) (fun t ht hW => ⟨_, rfl, (bI_t ((opn_nI (by omega)).mpr ⟨hj, h2⟩)).symm, ht⟩) t_nil d_O_isOpen_26

abbrev b_O_stateOf : ByteArray := prog_9_method_14_code
def y_O_stateOf : MethodName := ⟨"PartShelvesModel", "stateOf", "(I)I"⟩
theorem d_O_stateOf_0 : decode b_O_stateOf 0 = .ok (.aload_n 0, 1) := by decide +kernel
theorem d_O_stateOf_1 : decode b_O_stateOf 1 = .ok (.getfield 30, 3) := by decide +kernel
theorem d_O_stateOf_4 : decode b_O_stateOf 4 = .ok (.iload_n 1, 1) := by decide +kernel
theorem d_O_stateOf_5 : decode b_O_stateOf 5 = .ok (.iaload, 1) := by decide +kernel
theorem d_O_stateOf_6 : decode b_O_stateOf 6 = .ok (.iconst 1, 1) := by decide +kernel
theorem d_O_stateOf_7 : decode b_O_stateOf 7 = .ok (.if_icmp .ne 20, 3) := by decide +kernel
theorem d_O_stateOf_10 : decode b_O_stateOf 10 = .ok (.aload_n 0, 1) := by decide +kernel
theorem d_O_stateOf_11 : decode b_O_stateOf 11 = .ok (.getfield 36, 3) := by decide +kernel
theorem d_O_stateOf_14 : decode b_O_stateOf 14 = .ok (.iload_n 1, 1) := by decide +kernel
theorem d_O_stateOf_15 : decode b_O_stateOf 15 = .ok (.iaload, 1) := by decide +kernel
theorem d_O_stateOf_16 : decode b_O_stateOf 16 = .ok (.aload_n 0, 1) := by decide +kernel
theorem d_O_stateOf_17 : decode b_O_stateOf 17 = .ok (.getfield 88, 3) := by decide +kernel
theorem d_O_stateOf_20 : decode b_O_stateOf 20 = .ok (.if_icmp .ge 7, 3) := by decide +kernel
theorem d_O_stateOf_23 : decode b_O_stateOf 23 = .ok (.iconst 0, 1) := by decide +kernel
theorem d_O_stateOf_24 : decode b_O_stateOf 24 = .ok (.goto 9, 3) := by decide +kernel
theorem d_O_stateOf_27 : decode b_O_stateOf 27 = .ok (.aload_n 0, 1) := by decide +kernel
theorem d_O_stateOf_28 : decode b_O_stateOf 28 = .ok (.getfield 30, 3) := by decide +kernel
theorem d_O_stateOf_31 : decode b_O_stateOf 31 = .ok (.iload_n 1, 1) := by decide +kernel
theorem d_O_stateOf_32 : decode b_O_stateOf 32 = .ok (.iaload, 1) := by decide +kernel
theorem d_O_stateOf_33 : decode b_O_stateOf 33 = .ok (.ireturn, 1) := by decide +kernel
def w_O_stateOf : List Cond := .code y_O_stateOf b_O_stateOf 2 (some .int) :: ([.fieldLink "PartShelvesModel" 30 "PartShelvesModel" "states" "[I", .fieldLink "PartShelvesModel" 36 "PartShelvesModel" "days" "[I", .fieldLink "PartShelvesModel" 88 "PartShelvesModel" "today" "I"] ++ u_ws R_O F_O 36)
set_option maxHeartbeats 4000000 in
set_option maxRecDepth 100000 in
theorem c_O_stOf (l : Launch) (D : va_G) (kC : Nat → ClassId) (ad : Nat → Nat) (td : Nat) (rn : Nat) (pn : Nat) (an : Nat) (jn : Nat) (tn : Nat) (bm : Int32) (fw : Int64) (gp : Nat) (ga : Nat) (bp : Int32) (fc : Int64) (fj : Nat) (rA : Nat → Nat) (rC : Nat → Nat) (ft : Nat → Int32) (kd : Nat → Nat) (aG : Nat → Nat) (sR : Nat → Nat) (sT : Nat → Nat) (wh : Nat → Nat) (dY : Nat → Nat) (pd : Nat → Nat) (cN : Nat → Nat) (mN : Nat → Nat) (sv : Nat → Int32) (nd : Nat → Nat) (wr : Nat → Nat) (tl : Nat → Nat) (lt : Nat → Int32) (lT : Nat → Nat) (lD : Nat → Nat) (gv : Nat → Int32) (gn : Nat → Int64) (od : Nat → Nat) (br : Nat → Nat) (k : Nat) (hk : k < 8) (hsT : ∀ j, sT j ≤ 3) (hdY : ∀ j, dY j ≤ 100000) (htd : td ≤ 100000) : Met l y_O_stateOf w_O_stateOf ({ frames := 0, cells := 0, slots := 0, locals := 0 } : Room) (gPr cls D (tyL kC) [.ref (ad 0), .int (nI k)] (fl [(wO kC ad td rn pn an jn tn bm fw gp ga bp fc fj rA rC ft kd aG sR sT wh dY pd cN mN sv nd wr tl lt lT lD gv gn od br)])) (vp_Si (fun r => r = nI (stOn (sT k) (dY k) td))) 0 0 (fun _ => False) := by
  refine Met.ofW (cc := b_O_stateOf) (maxL := 2) (ret := (some .int)) (by decide) rfl ?_
  intro p e s m args below meth c s₁ B hml hv
  obtain ⟨rfl, hP, hK⟩ := hv
  have hx := B.exec
  have hb := B.bytes
  have hr := B.returns
  have hts := atoms_spec (ws := w_O_stateOf) B.pre
  have hown : s.vm.findClass R_O = some m.cls := findClass_of_methodNamed B.named
  have hlocks := B.notSynchronized
  have hl := lv_entry ([.ref (ad 0), .int (nI k)]) (n := 2) (Nat.le_of_ble_eq_true rfl)
  rw [lg_entry_eq]
  generalize (lg_sl ([.ref (ad 0), .int (nI k)]) ++ List.replicate (2 - (lg_sl ([.ref (ad 0), .int (nI k)])).length) Slot.unset).toArray = ls at hl ⊢
  have hl : lv_has ls 2 [(0, .ref (ad 0)), (1, .int (nI k))] := hl
  refine lv_aload_n hx hb d_O_stateOf_0 rfl (lv_at hl 0 rfl) ?_
  refine fv_get (ci := 7) (v := .ref (ad 7)) (C := R_O) (T := F_O) (N := 36) hx hb hts (by decide +kernel) hown hK hP 0 0 rfl rfl rfl 9 (by decide) (hts (.fieldLink R_O 30 "PartShelvesModel" "states" "[I") (by decide +kernel)) (fun _ h9 => h9) rfl d_O_stateOf_1 ?_
  refine lv_iload_n hx hb d_O_stateOf_4 rfl (lv_at hl 1 rfl) ?_
  refine fa_ialdN hx hb hK hP 0 7 0 rfl rfl rfl (by omega) (by decide) d_O_stateOf_5 ?_
  refine lv_iconst (v := nI 1) hx hb d_O_stateOf_6 (by decide) ?_
  refine nv_icmp_ne (tgt := 27) hx hb d_O_stateOf_7 (by decide) (by have := hsT k; omega) (by omega) (fun h1 => ?_) (fun h1 => ?_)
  · refine lv_aload_n hx hb d_O_stateOf_27 rfl (lv_at hl 0 rfl) ?_
    refine fv_get (ci := 7) (v := .ref (ad 7)) (C := R_O) (T := F_O) (N := 36) hx hb hts (by decide +kernel) hown hK hP 0 0 rfl rfl rfl 9 (by decide) (hts (.fieldLink R_O 30 "PartShelvesModel" "states" "[I") (by decide +kernel)) (fun _ h9 => h9) rfl d_O_stateOf_28 ?_
    refine lv_iload_n hx hb d_O_stateOf_31 rfl (lv_at hl 1 rfl) ?_
    refine fa_ialdN hx hb hK hP 0 7 0 rfl rfl rfl (by omega) (by decide) d_O_stateOf_32 ?_
    exact W.iret (v := nI (sT k)) hx hb hr (fun t ht hW => ⟨_, rfl, congrArg nI (by first | exact (if_pos ⟨h1, h2⟩).symm | exact (if_neg (fun q => h1 q.1)).symm | exact (if_neg (fun q => by have := q.2; omega)).symm), ht⟩) t_nil d_O_stateOf_33
  · refine lv_aload_n hx hb d_O_stateOf_10 rfl (lv_at hl 0 rfl) ?_
    refine fv_get (ci := 7) (v := .ref (ad 9)) (C := R_O) (T := F_O) (N := 36) hx hb hts (by decide +kernel) hown hK hP 0 0 rfl rfl rfl 11 (by decide) (hts (.fieldLink R_O 36 "PartShelvesModel" "days" "[I") (by decide +kernel)) (fun _ h9 => h9) rfl d_O_stateOf_11 ?_
    refine lv_iload_n hx hb d_O_stateOf_14 rfl (lv_at hl 1 rfl) ?_
    refine fa_ialdN hx hb hK hP 0 9 0 rfl rfl rfl (by omega) (by decide) d_O_stateOf_15 ?_
    refine lv_aload_n hx hb d_O_stateOf_16 rfl (lv_at hl 0 rfl) ?_
    refine fv_get (ci := 7) (v := .int (nI td)) (C := R_O) (T := F_O) (N := 36) hx hb hts (by decide +kernel) hown hK hP 0 0 rfl rfl rfl 0 (by decide) (hts (.fieldLink R_O 88 "PartShelvesModel" "today" "I") (by decide +kernel)) (fun _ h9 => h9) rfl d_O_stateOf_17 ?_
    refine nv_icmp_ge (tgt := 27) hx hb d_O_stateOf_20 (by decide) (by have := hdY k; omega) (by omega) (fun h2 => ?_) (fun h2 => ?_)
    · refine lv_aload_n hx hb d_O_stateOf_27 rfl (lv_at hl 0 rfl) ?_
      refine fv_get (ci := 7) (v := .ref (ad 7)) (C := R_O) (T := F_O) (N := 36) hx hb hts (by decide +kernel) hown hK hP 0 0 rfl rfl rfl 9 (by decide) (hts (.fieldLink R_O 30 "PartShelvesModel" "states" "[I") (by decide +kernel)) (fun _ h9 => h9) rfl d_O_stateOf_28 ?_
      refine lv_iload_n hx hb d_O_stateOf_31 rfl (lv_at hl 1 rfl) ?_
      refine fa_ialdN hx hb hK hP 0 7 0 rfl rfl rfl (by omega) (by decide) d_O_stateOf_32 ?_
      exact W.iret (v := nI (sT k)) hx hb hr (fun t ht hW => ⟨_, rfl, congrArg nI (by first | exact (if_pos ⟨h1, h2⟩).symm | exact (if_neg (fun q => h1 q.1)).symm | exact (if_neg (fun q => by have := q.2; omega)).symm), ht⟩) t_nil d_O_stateOf_33
    · refine lv_iconst (v := nI 0) hx hb d_O_stateOf_23 (by decide) ?_
      refine lv_goto (tgt := 33) hx hb d_O_stateOf_24 (by decide) ?_
      exact W.iret (v := nI 0) hx hb hr (fun t ht hW => ⟨_, rfl, congrArg nI (by first | exact (if_pos ⟨h1, h2⟩).symm | exact (if_neg (fun q => h1 q.1)).symm | exact (if_neg (fun q => by have := q.2; omega)).symm), ht⟩) t_nil d_O_stateOf_33

abbrev b_O_priceOf : ByteArray := prog_9_method_12_code
def y_O_priceOf : MethodName := ⟨"PartShelvesModel", "priceOf", "(I)J"⟩
theorem d_O_priceOf_0 : decode b_O_priceOf 0 = .ok (.lconst 0, 1) := by decide +kernel
theorem d_O_priceOf_1 : decode b_O_priceOf 1 = .ok (.lstore_n 2, 1) := by decide +kernel
theorem d_O_priceOf_2 : decode b_O_priceOf 2 = .ok (.iconst 0, 1) := by decide +kernel
theorem d_O_priceOf_3 : decode b_O_priceOf 3 = .ok (.istore 4, 2) := by decide +kernel
theorem d_O_priceOf_5 : decode b_O_priceOf 5 = .ok (.iload 4, 2) := by decide +kernel
theorem d_O_priceOf_7 : decode b_O_priceOf 7 = .ok (.aload_n 0, 1) := by decide +kernel
theorem d_O_priceOf_8 : decode b_O_priceOf 8 = .ok (.getfield 97, 3) := by decide +kernel
theorem d_O_priceOf_11 : decode b_O_priceOf 11 = .ok (.if_icmp .ge 37, 3) := by decide +kernel
theorem d_O_priceOf_14 : decode b_O_priceOf 14 = .ok (.aload_n 0, 1) := by decide +kernel
theorem d_O_priceOf_15 : decode b_O_priceOf 15 = .ok (.getfield 7, 3) := by decide +kernel
theorem d_O_priceOf_18 : decode b_O_priceOf 18 = .ok (.iload 4, 2) := by decide +kernel
theorem d_O_priceOf_20 : decode b_O_priceOf 20 = .ok (.iaload, 1) := by decide +kernel
theorem d_O_priceOf_21 : decode b_O_priceOf 21 = .ok (.aload_n 0, 1) := by decide +kernel
theorem d_O_priceOf_22 : decode b_O_priceOf 22 = .ok (.getfield 24, 3) := by decide +kernel
theorem d_O_priceOf_25 : decode b_O_priceOf 25 = .ok (.iload_n 1, 1) := by decide +kernel
theorem d_O_priceOf_26 : decode b_O_priceOf 26 = .ok (.iaload, 1) := by decide +kernel
theorem d_O_priceOf_27 : decode b_O_priceOf 27 = .ok (.if_icmp .gt 13, 3) := by decide +kernel
theorem d_O_priceOf_30 : decode b_O_priceOf 30 = .ok (.aload_n 0, 1) := by decide +kernel
theorem d_O_priceOf_31 : decode b_O_priceOf 31 = .ok (.getfield 13, 3) := by decide +kernel
theorem d_O_priceOf_34 : decode b_O_priceOf 34 = .ok (.iload 4, 2) := by decide +kernel
theorem d_O_priceOf_36 : decode b_O_priceOf 36 = .ok (.laload, 1) := by decide +kernel
theorem d_O_priceOf_37 : decode b_O_priceOf 37 = .ok (.goto 4, 3) := by decide +kernel
theorem d_O_priceOf_40 : decode b_O_priceOf 40 = .ok (.lload_n 2, 1) := by decide +kernel
theorem d_O_priceOf_41 : decode b_O_priceOf 41 = .ok (.lstore_n 2, 1) := by decide +kernel
theorem d_O_priceOf_42 : decode b_O_priceOf 42 = .ok (.iinc 4 1, 3) := by decide +kernel
theorem d_O_priceOf_45 : decode b_O_priceOf 45 = .ok (.goto (-40), 3) := by decide +kernel
theorem d_O_priceOf_48 : decode b_O_priceOf 48 = .ok (.lload_n 2, 1) := by decide +kernel
theorem d_O_priceOf_49 : decode b_O_priceOf 49 = .ok (.lreturn, 1) := by decide +kernel
def w_O_priceOf : List Cond := .code y_O_priceOf b_O_priceOf 5 (some .long) :: ([.fieldLink "PartShelvesModel" 97 "PartShelvesModel" "rows" "I", .fieldLink "PartShelvesModel" 7 "PartShelvesModel" "rowAges" "[I", .fieldLink "PartShelvesModel" 24 "PartShelvesModel" "ages" "[I", .fieldLink "PartShelvesModel" 13 "PartShelvesModel" "rowCents" "[J"] ++ u_ws R_O F_O 36)
set_option maxHeartbeats 4000000 in
set_option maxRecDepth 100000 in
theorem c_O_prOf (l : Launch) (D : va_G) (kC : Nat → ClassId) (ad : Nat → Nat) (td : Nat) (rn : Nat) (pn : Nat) (an : Nat) (jn : Nat) (tn : Nat) (bm : Int32) (fw : Int64) (gp : Nat) (ga : Nat) (bp : Int32) (fc : Int64) (fj : Nat) (rA : Nat → Nat) (rC : Nat → Nat) (ft : Nat → Int32) (kd : Nat → Nat) (aG : Nat → Nat) (sR : Nat → Nat) (sT : Nat → Nat) (wh : Nat → Nat) (dY : Nat → Nat) (pd : Nat → Nat) (cN : Nat → Nat) (mN : Nat → Nat) (sv : Nat → Int32) (nd : Nat → Nat) (wr : Nat → Nat) (tl : Nat → Nat) (lt : Nat → Int32) (lT : Nat → Nat) (lD : Nat → Nat) (gv : Nat → Int32) (gn : Nat → Int64) (od : Nat → Nat) (br : Nat → Nat) (k : Nat) (hk : k < 8) (hrn : rn ≤ 6) (hrA : ∀ j, rA j ≤ 1000) (haG : ∀ j, aG j ≤ 1000) : Met l y_O_priceOf w_O_priceOf ({ frames := 0, cells := 0, slots := 0, locals := 0 } : Room) (gPr cls D (tyL kC) [.ref (ad 0), .int (nI k)] (fl [(wO kC ad td rn pn an jn tn bm fw gp ga bp fc fj rA rC ft kd aG sR sT wh dY pd cN mN sv nd wr tl lt lT lD gv gn od br)])) (vp_Sl (fun r => r = lN (prM rA rC (aG k) rn))) 0 0 (fun _ => False) := by
  refine Met.ofW (cc := b_O_priceOf) (maxL := 5) (ret := (some .long)) (by decide) rfl ?_
  intro p e s m args below meth c s₁ B hml hv
  obtain ⟨rfl, hP, hK⟩ := hv
  have hx := B.exec
  have hb := B.bytes
  have hr := B.returns
  have hts := atoms_spec (ws := w_O_priceOf) B.pre
  have hown : s.vm.findClass R_O = some m.cls := findClass_of_methodNamed B.named
  have hlocks := B.notSynchronized
  have hl := lv_entry ([.ref (ad 0), .int (nI k)]) (n := 5) (Nat.le_of_ble_eq_true rfl)
  rw [lg_entry_eq]
  generalize (lg_sl ([.ref (ad 0), .int (nI k)]) ++ List.replicate (5 - (lg_sl ([.ref (ad 0), .int (nI k)])).length) Slot.unset).toArray = ls at hl ⊢
  have hl : lv_has ls 5 [(0, .ref (ad 0)), (1, .int (nI k))] := hl
  refine lv_lconst (v := lN 0) hx hb d_O_priceOf_0 (by decide) ?_
  refine lv_lstore_n (lv' := [(2, .long (lN 0)), (0, .ref (ad 0)), (1, .int (nI k))]) hx hb d_O_priceOf_1 rfl hl (by decide) rfl (fun ls hl => ?_)
  refine lv_iconst (v := nI 0) hx hb d_O_priceOf_2 (by decide) ?_
  refine lv_istore (lv' := [(4, .int (nI 0)), (2, .long (lN 0)), (0, .ref (ad 0)), (1, .int (nI k))]) hx hb d_O_priceOf_3 hl (by decide) rfl (fun ls hl => ?_)
  have L5 : ∀ (n5 : Nat) (i : Nat), rn - i < n5 → i ≤ rn → ∀ (ls : Array Slot), lv_has ls 5 [(0, .ref (ad 0)), (1, .int (nI k)), (2, .long (lN (prM rA rC (aG k) i))), (4, .int (nI i))] → W p l e (headSpec w_O_priceOf ({ frames := 0, cells := 0, slots := 0, locals := 0 } : Room)).room s m ([.ref (ad 0), .int (nI k)] : List Value).toArray below meth c s.heap [] 0 0 (MQ below (vp_Sl (fun r => r = lN (prM rA rC (aG k) rn))) ([.ref (ad 0), .int (nI k)] : List Value).toArray s 0 0 (fun _ => False)) (F0 m 5 ls []) := by
    intro n5
    induction n5 with
    | zero =>
      intro i hm
      exact absurd hm (Nat.not_lt_zero _)
    | succ n5 ih5 =>
      intro i hm hir ls hl
      refine lv_iload hx hb d_O_priceOf_5 (lv_at hl 3 rfl) ?_
      refine lv_aload_n hx hb d_O_priceOf_7 rfl (lv_at hl 0 rfl) ?_
      refine fv_get (ci := 7) (v := .int (nI rn)) (C := R_O) (T := F_O) (N := 36) hx hb hts (by decide +kernel) hown hK hP 0 0 rfl rfl rfl 1 (by decide) (hts (.fieldLink R_O 97 "PartShelvesModel" "rows" "I") (by decide +kernel)) (fun _ h9 => h9) rfl d_O_priceOf_8 ?_
      refine nv_icmp_ge (tgt := 48) hx hb d_O_priceOf_11 (by decide) (by omega) (by omega) (fun hi => ?_) (fun hi => ?_)
      · obtain rfl : rn = i := by omega
        refine lv_lload_n hx hb d_O_priceOf_48 rfl (lv_at hl 2 rfl) ?_
        exact W.lret (v := lN (prM rA rC (aG k) rn)) hx hb hr (fun t ht hW => ⟨_, rfl, rfl, ht⟩) t_nil d_O_priceOf_49
      · refine lv_aload_n hx hb d_O_priceOf_14 rfl (lv_at hl 0 rfl) ?_
        refine fv_get (ci := 7) (v := .ref (ad 1)) (C := R_O) (T := F_O) (N := 36) hx hb hts (by decide +kernel) hown hK hP 0 0 rfl rfl rfl 2 (by decide) (hts (.fieldLink R_O 7 "PartShelvesModel" "rowAges" "[I") (by decide +kernel)) (fun _ h9 => h9) rfl d_O_priceOf_15 ?_
        refine lv_iload hx hb d_O_priceOf_18 (lv_at hl 3 rfl) ?_
        refine fa_ialdN hx hb hK hP 0 1 0 rfl rfl rfl (by omega) (by decide) d_O_priceOf_20 ?_
        refine lv_aload_n hx hb d_O_priceOf_21 rfl (lv_at hl 0 rfl) ?_
        refine fv_get (ci := 7) (v := .ref (ad 5)) (C := R_O) (T := F_O) (N := 36) hx hb hts (by decide +kernel) hown hK hP 0 0 rfl rfl rfl 7 (by decide) (hts (.fieldLink R_O 24 "PartShelvesModel" "ages" "[I") (by decide +kernel)) (fun _ h9 => h9) rfl d_O_priceOf_22 ?_
        refine lv_iload_n hx hb d_O_priceOf_25 rfl (lv_at hl 1 rfl) ?_
        refine fa_ialdN hx hb hK hP 0 5 0 rfl rfl rfl (by omega) (by decide) d_O_priceOf_26 ?_
        refine nv_icmp_gt (tgt := 40) hx hb d_O_priceOf_27 (by decide) (by have := hrA i; omega) (by have := haG k; omega) (fun hc => ?_) (fun hc => ?_)
        · refine lv_lload_n hx hb d_O_priceOf_40 rfl (lv_at hl 2 rfl) ?_
          refine lv_lstore_n (lv' := [(2, .long (lN (prM rA rC (aG k) i))), (0, .ref (ad 0)), (1, .int (nI k)), (4, .int (nI i))]) hx hb d_O_priceOf_41 rfl hl (by decide) rfl (fun ls hl => ?_)
          have el1 : lN (prM rA rC (aG k) i) = lN (prM rA rC (aG k) (i + 1)) := congrArg lN ((if_neg (by omega)).symm)
          have hl : lv_has ls 5 [(2, .long (lN (prM rA rC (aG k) (i + 1)))), (0, .ref (ad 0)), (1, .int (nI k)), (4, .int (nI i))] := by rw [← el1]; exact hl
          refine lv_iinc (v := nI (i + 1)) (lv' := [(4, .int (nI (i + 1))), (2, .long (lN (prM rA rC (aG k) (i + 1)))), (0, .ref (ad 0)), (1, .int (nI k))]) hx hb d_O_priceOf_42 hl (k := 3) rfl (nI_1 i) (by decide) rfl (fun ls hl => ?_)
          refine lv_goto (tgt := 5) hx hb d_O_priceOf_45 (by decide) ?_
          exact ih5 (i + 1) (by omega) (hi) ls (lv_sub hl [2, 3, 1, 0] rfl)
        · refine lv_aload_n hx hb d_O_priceOf_30 rfl (lv_at hl 0 rfl) ?_
          refine fv_get (ci := 7) (v := .ref (ad 2)) (C := R_O) (T := F_O) (N := 36) hx hb hts (by decide +kernel) hown hK hP 0 0 rfl rfl rfl 3 (by decide) (hts (.fieldLink R_O 13 "PartShelvesModel" "rowCents" "[J") (by decide +kernel)) (fun _ h9 => h9) rfl d_O_priceOf_31 ?_
          refine lv_iload hx hb d_O_priceOf_34 (lv_at hl 3 rfl) ?_
          refine fa_laldN hx hb hK hP 0 2 1 rfl rfl rfl (by omega) (by decide) d_O_priceOf_36 ?_
          refine lv_goto (tgt := 41) hx hb d_O_priceOf_37 (by decide) ?_
          refine lv_lstore_n (lv' := [(2, .long (lN (rC i))), (0, .ref (ad 0)), (1, .int (nI k)), (4, .int (nI i))]) hx hb d_O_priceOf_41 rfl hl (by decide) rfl (fun ls hl => ?_)
          have el2 : lN (rC i) = lN (prM rA rC (aG k) (i + 1)) := congrArg lN ((if_pos hc).symm)
          have hl : lv_has ls 5 [(2, .long (lN (prM rA rC (aG k) (i + 1)))), (0, .ref (ad 0)), (1, .int (nI k)), (4, .int (nI i))] := by rw [← el2]; exact hl
          refine lv_iinc (v := nI (i + 1)) (lv' := [(4, .int (nI (i + 1))), (2, .long (lN (prM rA rC (aG k) (i + 1)))), (0, .ref (ad 0)), (1, .int (nI k))]) hx hb d_O_priceOf_42 hl (k := 3) rfl (nI_1 i) (by decide) rfl (fun ls hl => ?_)
          refine lv_goto (tgt := 5) hx hb d_O_priceOf_45 (by decide) ?_
          exact ih5 (i + 1) (by omega) (hi) ls (lv_sub hl [2, 3, 1, 0] rfl)
  exact L5 _ 0 (Nat.lt_succ_self _) (Nat.zero_le _) ls (lv_sub hl [2, 3, 1, 0] rfl)

