/-- the class's own cells -/
def wP (kC : Nat → ClassId) (ad : Nat → Nat) (qR : Nat → Nat) (lp : Nat) (la : Nat) (lj : Nat) (qM : Nat → Nat) (qN : Nat → Nat) (ft : Nat → Int32) (wr : Nat → Nat) (tl : Nat → Int32) (tn : Nat) (bo : Nat → Int32) (lD : Nat → Nat) (td : Nat) : va_W := [(ad 0, .inr (0, [.ref (qR 0), .ref (ad 1), .ref (lp), .ref (la), .ref (lj), .ref (qM 0), .ref (qN 0), .ref (ad 2), .ref (ad 3), .int (nI tn), .ref (ad 4), .ref (ad 5), .int (nI td)])), (ad 1, .inl (kC 2, 36, .inl ft)), (ad 2, .inl (kC 0, 6, .inl (fun j => nI (wr j)))), (ad 3, .inl (kC 0, 8, .inl tl)), (ad 4, .inl (kC 0, 4, .inl bo)), (ad 5, .inl (kC 0, 4, .inl (fun j => nI (lD j))))]
theorem bI_congr {P Q : Prop} [Decidable P] [Decidable Q] (h : P ↔ Q) : bI P = bI Q := by
  by_cases hq : Q
  · rw [bI_t hq, bI_t (h.mpr hq)]
  · rw [bI_f hq, bI_f (fun z => hq (h.mp z))]
theorem inL_R {n : Nat} {x : Int32} : inL 0 n x.toInt64 ↔ inR x (n + 1) := by rw [inL_i]; unfold inI inR; omega
theorem nI_leI1 {a : Nat} (ha : a < 2 ^ 31) {x : Int32} : nI a ≤ x ↔ (a : Int) ≤ x.toInt := by rw [Int32.le_iff_toInt_le, nI_toInt ha]
theorem nI_leI2 {a : Nat} (ha : a < 2 ^ 31) {x : Int32} : x ≤ nI a ↔ x.toInt ≤ (a : Int) := by rw [Int32.le_iff_toInt_le, nI_toInt ha]
theorem prAt_N {rA rC : Nat → Nat} {x : Nat} (hA : ∀ j, rA j ≤ 1000) (hx : x ≤ 1000) : ∀ n, prAt (fun i => nI (rA i)) (fun i => lN (rC i)) (nI x) n = lN (prM rA rC x n)
  | 0 => rfl
  | n + 1 => by
    have h := hA n
    simp only [prAt, prM]
    by_cases e : rA n ≤ x
    · rw [if_pos e, if_pos ((nI_leI (by omega) (by omega)).mpr e)]
    · rw [if_neg e, if_neg (fun q => e ((nI_leI (by omega) (by omega)).mp q)), prAt_N hA hx n]
theorem dif_lt {a b : Nat} (ha : a < 2 ^ 31) (hb : b < 2 ^ 31) : lN a - lN b < lN 0 ↔ a < b := by
  rw [Int64.lt_iff_toInt_lt, Int64.toInt_sub, lN_toInt ha, lN_toInt hb, lN_toInt (by decide), Int.bmod_eq_of_le (by omega) (by omega)]
  omega
/-- a part and an ask are a pair now, as the class asks it -/
abbrev pwC (ft : Nat → Int32) (rA rC : Nat → Nat) (rn td ki ag sa dy : Nat) (ho : Int32) (nu pr ce : Nat) (op : Int32) : Prop :=
  ¬ op = 0 ∧ ¬ ft (6 * ki + pr) = 0 ∧ prM rA rC ag rn ≤ ce ∧ (stOn sa dy td = 0 ∨ (stOn sa dy td = 1 ∧ ho = nI nu))
def pwO (ft : Nat → Int32) (rA rC : Nat → Nat) (rn td ki ag sa dy : Nat) (ho : Int32) (nu pr ce : Nat) (op : Int32) : Option Nat := if pwC ft rA rC rn td ki ag sa dy ho nu pr ce op then some (ce - prM rA rC ag rn) else none
/-- how many asks stand before an ask -/
def rkC (nu mi : Nat → Nat) (a : Nat) : Nat → Nat
  | 0 => 0
  | k + 1 => if mi k < mi a ∨ (mi k = mi a ∧ nu k < nu a) then rkC nu mi a k + 1 else rkC nu mi a k
theorem rkC_le (nu mi : Nat → Nat) (a : Nat) : ∀ k, rkC nu mi a k ≤ k
  | 0 => Nat.le_refl 0
  | k + 1 => by
    have := rkC_le nu mi a k
    simp only [rkC]
    split <;> omega
theorem pw_P {D : va_G} {cl : List vw_C} {n : Nat} {g : Nat → va_W} {H : Heap} (h : va_P D cl (pw n g) H) {i : Nat} (hi : i < n) : va_P D cl (g i) H := by
  rw [pw_cut hi] at h
  exact fl_mem.mpr fun q hq => fl_mem.mp h q (List.mem_append.mpr (Or.inr (List.mem_append.mpr (Or.inl hq))))
theorem pw2 {D : va_G} {cl : List vw_C} {n : Nat} {g : Nat → va_W} {H : Heap} (h : va_P D cl (pw n g) H) {i j : Nat} (hi : i < n) (hj : j < n) : va_P D cl (fl [g i, g j]) H := fl_mem.mpr fun q hq => by
  have e : fl [g i, g j] = g i ++ g j := by show g i ++ (g j ++ []) = _; rw [List.append_nil]
  rw [e] at hq
  rcases List.mem_append.mp hq with h1 | h1
  · exact fl_mem.mp (pw_P h hi) q h1
  · exact fl_mem.mp (pw_P h hj) q h1
abbrev b_P_isWithin : ByteArray := prog_1_method_27_code
def y_P_isWithin : MethodName := ⟨"PartShelves", "isWithin", "(JJ)Z"⟩
theorem d_P_isWithin_0 : decode b_P_isWithin 0 = .ok (.lload_n 0, 1) := by decide +kernel
theorem d_P_isWithin_1 : decode b_P_isWithin 1 = .ok (.lconst 0, 1) := by decide +kernel
theorem d_P_isWithin_2 : decode b_P_isWithin 2 = .ok (.lcmp, 1) := by decide +kernel
theorem d_P_isWithin_3 : decode b_P_isWithin 3 = .ok (.ifCond .lt 13, 3) := by decide +kernel
theorem d_P_isWithin_6 : decode b_P_isWithin 6 = .ok (.lload_n 0, 1) := by decide +kernel
theorem d_P_isWithin_7 : decode b_P_isWithin 7 = .ok (.lload_n 2, 1) := by decide +kernel
theorem d_P_isWithin_8 : decode b_P_isWithin 8 = .ok (.lcmp, 1) := by decide +kernel
theorem d_P_isWithin_9 : decode b_P_isWithin 9 = .ok (.ifCond .gt 7, 3) := by decide +kernel
theorem d_P_isWithin_12 : decode b_P_isWithin 12 = .ok (.iconst 1, 1) := by decide +kernel
theorem d_P_isWithin_13 : decode b_P_isWithin 13 = .ok (.goto 4, 3) := by decide +kernel
theorem d_P_isWithin_16 : decode b_P_isWithin 16 = .ok (.iconst 0, 1) := by decide +kernel
theorem d_P_isWithin_17 : decode b_P_isWithin 17 = .ok (.ireturn, 1) := by decide +kernel
def w_P_isWithin : List Cond := .code y_P_isWithin b_P_isWithin 4 (some .boolean) :: ([])
set_option maxHeartbeats 4000000 in
set_option maxRecDepth 100000 in
theorem c_P_with (l : Launch) (x : Int64) (b : Nat) (hb2 : b < 2 ^ 31) : Met l y_P_isWithin w_P_isWithin ({ frames := 0, cells := 0, slots := 0, locals := 0 } : Room) (gP0 [.long x, .long (lN b)]) (vp_Si (fun r => r = bI (inL 0 b x))) 0 0 (fun _ => False) := by
  refine Met.ofW (cc := b_P_isWithin) (maxL := 4) (ret := (some .boolean)) (by decide) rfl ?_
  intro p e s m args below meth c s₁ B hml hv
  obtain rfl := hv
  have hx := B.exec
  have hb := B.bytes
  have hr := B.returns
  have hts := atoms_spec (ws := w_P_isWithin) B.pre
  have hown : s.vm.findClass R_P = some m.cls := findClass_of_methodNamed B.named
  have hlocks := B.notSynchronized
  have hl := lv_entry ([.long x, .long (lN b)]) (n := 4) (Nat.le_of_ble_eq_true rfl)
  rw [lg_entry_eq]
  generalize (lg_sl ([.long x, .long (lN b)]) ++ List.replicate (4 - (lg_sl ([.long x, .long (lN b)])).length) Slot.unset).toArray = ls at hl ⊢
  have hl : lv_has ls 4 [(0, .long x), (2, .long (lN b))] := hl
  refine lv_lload_n hx hb d_P_isWithin_0 rfl (lv_at hl 0 rfl) ?_
  refine lv_lconst (v := lN 0) hx hb d_P_isWithin_1 (by decide) ?_
  refine lc_lt (tgt := 16) hx hb d_P_isWithin_2 d_P_isWithin_3 (by decide) (fun h1 => ?_) (fun h1 => ?_)
  · refine lv_iconst (v := nI 0) hx hb d_P_isWithin_16 (by decide) ?_
    exact W.zret (v := nI 0) hx hb hr (nar_b (by first | exact Or.inl rfl | exact Or.inr rfl | exact bI_01)) (fun t ht hW => ⟨_, rfl, (bI_f (fun q => by first | exact absurd ((lN_leI' hb2).mpr q.2) (Int64.not_le.mpr h2) | exact absurd ((lN_leI (by decide)).mpr q.1) (Int64.not_le.mpr h1))).symm, ht⟩) t_nil d_P_isWithin_17
  · refine lv_lload_n hx hb d_P_isWithin_6 rfl (lv_at hl 0 rfl) ?_
    refine lv_lload_n hx hb d_P_isWithin_7 rfl (lv_at hl 1 rfl) ?_
    refine lc_gt (tgt := 16) hx hb d_P_isWithin_8 d_P_isWithin_9 (by decide) (fun h2 => ?_) (fun h2 => ?_)
    · refine lv_iconst (v := nI 0) hx hb d_P_isWithin_16 (by decide) ?_
      exact W.zret (v := nI 0) hx hb hr (nar_b (by first | exact Or.inl rfl | exact Or.inr rfl | exact bI_01)) (fun t ht hW => ⟨_, rfl, (bI_f (fun q => by first | exact absurd ((lN_leI' hb2).mpr q.2) (Int64.not_le.mpr h2) | exact absurd ((lN_leI (by decide)).mpr q.1) (Int64.not_le.mpr h1))).symm, ht⟩) t_nil d_P_isWithin_17
    · refine lv_iconst (v := nI 1) hx hb d_P_isWithin_12 (by decide) ?_
      refine lv_goto (tgt := 17) hx hb d_P_isWithin_13 (by decide) ?_
      exact W.zret (v := nI 1) hx hb hr (nar_b (by first | exact Or.inl rfl | exact Or.inr rfl | exact bI_01)) (fun t ht hW => ⟨_, rfl, (bI_t ⟨(lN_leI (by decide)).mp (Int64.not_lt.mp h1), (lN_leI' hb2).mp (Int64.not_lt.mp h2)⟩).symm, ht⟩) t_nil d_P_isWithin_17

abbrev b_P_isKind : ByteArray := prog_1_method_28_code
def y_P_isKind : MethodName := ⟨"PartShelves", "isKind", "(I)Z"⟩
theorem d_P_isKind_0 : decode b_P_isKind 0 = .ok (.iload_n 0, 1) := by decide +kernel
theorem d_P_isKind_1 : decode b_P_isKind 1 = .ok (.i2l, 1) := by decide +kernel
theorem d_P_isKind_2 : decode b_P_isKind 2 = .ok (.ldc2_w 231, 3) := by decide +kernel
theorem d_P_isKind_5 : decode b_P_isKind 5 = .ok (.invokestatic 73, 3) := by decide +kernel
theorem d_P_isKind_8 : decode b_P_isKind 8 = .ok (.ireturn, 1) := by decide +kernel
def w_P_isKind : List Cond := .code y_P_isKind b_P_isKind 1 (some .boolean) :: ([.constantLong "PartShelves" 231 5, .methodLink "PartShelves" 73 ⟨"PartShelves", "isWithin", "(JJ)Z"⟩, .static ⟨"PartShelves", "isWithin", "(JJ)Z"⟩, .initialized "PartShelves", .code ⟨"PartShelves", "isWithin", "(JJ)Z"⟩ prog_1_method_27_code 4 (some .boolean)])
set_option maxRecDepth 20000 in
theorem g_P_isKind_P_isWithin : GoodIn w_P_isKind (wsS R_P 73 y_P_isWithin w_P_isWithin) := goodIn_p _ [5] rfl (by decide +kernel)
set_option maxHeartbeats 4000000 in
set_option maxRecDepth 100000 in
theorem c_P_isKind (l : Launch) (x : Int32) : Met l y_P_isKind w_P_isKind ({ frames := 1, cells := 0, slots := 0, locals := 24 } : Room) (gP0 [.int x]) (vp_Si (fun r => r = bI (inR x 6))) 0 0 (fun _ => False) := by
  refine Met.ofW (cc := b_P_isKind) (maxL := 1) (ret := (some .boolean)) (by decide) rfl ?_
  intro p e s m args below meth c s₁ B hml hv
  obtain rfl := hv
  have hx := B.exec
  have hb := B.bytes
  have hr := B.returns
  have hts := atoms_spec (ws := w_P_isKind) B.pre
  have hown : s.vm.findClass R_P = some m.cls := findClass_of_methodNamed B.named
  have hlocks := B.notSynchronized
  have hl := lv_entry ([.int x]) (n := 1) (Nat.le_of_ble_eq_true rfl)
  rw [lg_entry_eq]
  generalize (lg_sl ([.int x]) ++ List.replicate (1 - (lg_sl ([.int x])).length) Slot.unset).toArray = ls at hl ⊢
  have hl : lv_has ls 1 [(0, .int x)] := hl
  refine lv_iload_n hx hb d_P_isKind_0 rfl (lv_at hl 0 rfl) ?_
  refine lv_i2l hx hb d_P_isKind_1 rfl ?_
  refine lv_ldc2 (v := 5) hx hb hown (hts (.constantLong R_P 231 5) (by decide +kernel)) d_P_isKind_2 ?_
  refine nv_topl (y := lN 5) (by decide +kernel) ?_
  refine r_calli (W.runS (As := [.long x.toInt64, .long (lN 5)]) (rest := []) ⟨hx, hb, hml, hown, hts⟩ (c_P_with l x.toInt64 5 (by decide)) (cwS 2 hts g_P_isKind_P_isWithin rfl rfl rfl (by decide +kernel) ⟨Nat.le_of_ble_eq_true rfl, Nat.le_of_ble_eq_true rfl⟩) p0_preS rfl rfl hl.1 rfl (lv_room (Nat.le_of_ble_eq_true rfl)) d_P_isKind_5 ⟨Nat.le_of_ble_eq_true rfl, Nat.le_of_ble_eq_true rfl⟩) ?_
  exact W.zret (v := bI (inL 0 5 x.toInt64)) hx hb hr (nar_b (by first | exact Or.inl rfl | exact Or.inr rfl | exact bI_01)) (fun t ht hW => ⟨_, rfl, bI_congr inL_R, ht⟩) t_nil d_P_isKind_8

abbrev b_P_isProduct : ByteArray := prog_1_method_29_code
def y_P_isProduct : MethodName := ⟨"PartShelves", "isProduct", "(I)Z"⟩
theorem d_P_isProduct_0 : decode b_P_isProduct 0 = .ok (.iload_n 0, 1) := by decide +kernel
theorem d_P_isProduct_1 : decode b_P_isProduct 1 = .ok (.i2l, 1) := by decide +kernel
theorem d_P_isProduct_2 : decode b_P_isProduct 2 = .ok (.ldc2_w 231, 3) := by decide +kernel
theorem d_P_isProduct_5 : decode b_P_isProduct 5 = .ok (.invokestatic 73, 3) := by decide +kernel
theorem d_P_isProduct_8 : decode b_P_isProduct 8 = .ok (.ireturn, 1) := by decide +kernel
def w_P_isProduct : List Cond := .code y_P_isProduct b_P_isProduct 1 (some .boolean) :: ([.constantLong "PartShelves" 231 5, .methodLink "PartShelves" 73 ⟨"PartShelves", "isWithin", "(JJ)Z"⟩, .static ⟨"PartShelves", "isWithin", "(JJ)Z"⟩, .initialized "PartShelves", .code ⟨"PartShelves", "isWithin", "(JJ)Z"⟩ prog_1_method_27_code 4 (some .boolean)])
set_option maxRecDepth 20000 in
theorem g_P_isProduct_P_isWithin : GoodIn w_P_isProduct (wsS R_P 73 y_P_isWithin w_P_isWithin) := goodIn_p _ [5] rfl (by decide +kernel)
set_option maxHeartbeats 4000000 in
set_option maxRecDepth 100000 in
theorem c_P_isProduct (l : Launch) (x : Int32) : Met l y_P_isProduct w_P_isProduct ({ frames := 1, cells := 0, slots := 0, locals := 24 } : Room) (gP0 [.int x]) (vp_Si (fun r => r = bI (inR x 6))) 0 0 (fun _ => False) := by
  refine Met.ofW (cc := b_P_isProduct) (maxL := 1) (ret := (some .boolean)) (by decide) rfl ?_
  intro p e s m args below meth c s₁ B hml hv
  obtain rfl := hv
  have hx := B.exec
  have hb := B.bytes
  have hr := B.returns
  have hts := atoms_spec (ws := w_P_isProduct) B.pre
  have hown : s.vm.findClass R_P = some m.cls := findClass_of_methodNamed B.named
  have hlocks := B.notSynchronized
  have hl := lv_entry ([.int x]) (n := 1) (Nat.le_of_ble_eq_true rfl)
  rw [lg_entry_eq]
  generalize (lg_sl ([.int x]) ++ List.replicate (1 - (lg_sl ([.int x])).length) Slot.unset).toArray = ls at hl ⊢
  have hl : lv_has ls 1 [(0, .int x)] := hl
  refine lv_iload_n hx hb d_P_isProduct_0 rfl (lv_at hl 0 rfl) ?_
  refine lv_i2l hx hb d_P_isProduct_1 rfl ?_
  refine lv_ldc2 (v := 5) hx hb hown (hts (.constantLong R_P 231 5) (by decide +kernel)) d_P_isProduct_2 ?_
  refine nv_topl (y := lN 5) (by decide +kernel) ?_
  refine r_calli (W.runS (As := [.long x.toInt64, .long (lN 5)]) (rest := []) ⟨hx, hb, hml, hown, hts⟩ (c_P_with l x.toInt64 5 (by decide)) (cwS 2 hts g_P_isProduct_P_isWithin rfl rfl rfl (by decide +kernel) ⟨Nat.le_of_ble_eq_true rfl, Nat.le_of_ble_eq_true rfl⟩) p0_preS rfl rfl hl.1 rfl (lv_room (Nat.le_of_ble_eq_true rfl)) d_P_isProduct_5 ⟨Nat.le_of_ble_eq_true rfl, Nat.le_of_ble_eq_true rfl⟩) ?_
  exact W.zret (v := bI (inL 0 5 x.toInt64)) hx hb hr (nar_b (by first | exact Or.inl rfl | exact Or.inr rfl | exact bI_01)) (fun t ht hW => ⟨_, rfl, bI_congr inL_R, ht⟩) t_nil d_P_isProduct_8

abbrev b_P_isPerson : ByteArray := prog_1_method_30_code
def y_P_isPerson : MethodName := ⟨"PartShelves", "isPerson", "(I)Z"⟩
theorem d_P_isPerson_0 : decode b_P_isPerson 0 = .ok (.iload_n 0, 1) := by decide +kernel
theorem d_P_isPerson_1 : decode b_P_isPerson 1 = .ok (.i2l, 1) := by decide +kernel
theorem d_P_isPerson_2 : decode b_P_isPerson 2 = .ok (.ldc2_w 233, 3) := by decide +kernel
theorem d_P_isPerson_5 : decode b_P_isPerson 5 = .ok (.invokestatic 73, 3) := by decide +kernel
theorem d_P_isPerson_8 : decode b_P_isPerson 8 = .ok (.ireturn, 1) := by decide +kernel
def w_P_isPerson : List Cond := .code y_P_isPerson b_P_isPerson 1 (some .boolean) :: ([.constantLong "PartShelves" 233 9, .methodLink "PartShelves" 73 ⟨"PartShelves", "isWithin", "(JJ)Z"⟩, .static ⟨"PartShelves", "isWithin", "(JJ)Z"⟩, .initialized "PartShelves", .code ⟨"PartShelves", "isWithin", "(JJ)Z"⟩ prog_1_method_27_code 4 (some .boolean)])
set_option maxRecDepth 20000 in
theorem g_P_isPerson_P_isWithin : GoodIn w_P_isPerson (wsS R_P 73 y_P_isWithin w_P_isWithin) := goodIn_p _ [5] rfl (by decide +kernel)
set_option maxHeartbeats 4000000 in
set_option maxRecDepth 100000 in
theorem c_P_isPerson (l : Launch) (x : Int32) : Met l y_P_isPerson w_P_isPerson ({ frames := 1, cells := 0, slots := 0, locals := 24 } : Room) (gP0 [.int x]) (vp_Si (fun r => r = bI (inR x 10))) 0 0 (fun _ => False) := by
  refine Met.ofW (cc := b_P_isPerson) (maxL := 1) (ret := (some .boolean)) (by decide) rfl ?_
  intro p e s m args below meth c s₁ B hml hv
  obtain rfl := hv
  have hx := B.exec
  have hb := B.bytes
  have hr := B.returns
  have hts := atoms_spec (ws := w_P_isPerson) B.pre
  have hown : s.vm.findClass R_P = some m.cls := findClass_of_methodNamed B.named
  have hlocks := B.notSynchronized
  have hl := lv_entry ([.int x]) (n := 1) (Nat.le_of_ble_eq_true rfl)
  rw [lg_entry_eq]
  generalize (lg_sl ([.int x]) ++ List.replicate (1 - (lg_sl ([.int x])).length) Slot.unset).toArray = ls at hl ⊢
  have hl : lv_has ls 1 [(0, .int x)] := hl
  refine lv_iload_n hx hb d_P_isPerson_0 rfl (lv_at hl 0 rfl) ?_
  refine lv_i2l hx hb d_P_isPerson_1 rfl ?_
  refine lv_ldc2 (v := 9) hx hb hown (hts (.constantLong R_P 233 9) (by decide +kernel)) d_P_isPerson_2 ?_
  refine nv_topl (y := lN 9) (by decide +kernel) ?_
  refine r_calli (W.runS (As := [.long x.toInt64, .long (lN 9)]) (rest := []) ⟨hx, hb, hml, hown, hts⟩ (c_P_with l x.toInt64 9 (by decide)) (cwS 2 hts g_P_isPerson_P_isWithin rfl rfl rfl (by decide +kernel) ⟨Nat.le_of_ble_eq_true rfl, Nat.le_of_ble_eq_true rfl⟩) p0_preS rfl rfl hl.1 rfl (lv_room (Nat.le_of_ble_eq_true rfl)) d_P_isPerson_5 ⟨Nat.le_of_ble_eq_true rfl, Nat.le_of_ble_eq_true rfl⟩) ?_
  exact W.zret (v := bI (inL 0 9 x.toInt64)) hx hb hr (nar_b (by first | exact Or.inl rfl | exact Or.inr rfl | exact bI_01)) (fun t ht hW => ⟨_, rfl, bI_congr inL_R, ht⟩) t_nil d_P_isPerson_8

abbrev b_P_isTool : ByteArray := prog_1_method_31_code
def y_P_isTool : MethodName := ⟨"PartShelves", "isTool", "(I)Z"⟩
theorem d_P_isTool_0 : decode b_P_isTool 0 = .ok (.iload_n 0, 1) := by decide +kernel
theorem d_P_isTool_1 : decode b_P_isTool 1 = .ok (.i2l, 1) := by decide +kernel
theorem d_P_isTool_2 : decode b_P_isTool 2 = .ok (.ldc2_w 189, 3) := by decide +kernel
theorem d_P_isTool_5 : decode b_P_isTool 5 = .ok (.invokestatic 73, 3) := by decide +kernel
theorem d_P_isTool_8 : decode b_P_isTool 8 = .ok (.ireturn, 1) := by decide +kernel
def w_P_isTool : List Cond := .code y_P_isTool b_P_isTool 1 (some .boolean) :: ([.constantLong "PartShelves" 189 3, .methodLink "PartShelves" 73 ⟨"PartShelves", "isWithin", "(JJ)Z"⟩, .static ⟨"PartShelves", "isWithin", "(JJ)Z"⟩, .initialized "PartShelves", .code ⟨"PartShelves", "isWithin", "(JJ)Z"⟩ prog_1_method_27_code 4 (some .boolean)])
set_option maxRecDepth 20000 in
theorem g_P_isTool_P_isWithin : GoodIn w_P_isTool (wsS R_P 73 y_P_isWithin w_P_isWithin) := goodIn_p _ [5] rfl (by decide +kernel)
set_option maxHeartbeats 4000000 in
set_option maxRecDepth 100000 in
theorem c_P_isTool (l : Launch) (x : Int32) : Met l y_P_isTool w_P_isTool ({ frames := 1, cells := 0, slots := 0, locals := 24 } : Room) (gP0 [.int x]) (vp_Si (fun r => r = bI (inR x 4))) 0 0 (fun _ => False) := by
  refine Met.ofW (cc := b_P_isTool) (maxL := 1) (ret := (some .boolean)) (by decide) rfl ?_
  intro p e s m args below meth c s₁ B hml hv
  obtain rfl := hv
  have hx := B.exec
  have hb := B.bytes
  have hr := B.returns
  have hts := atoms_spec (ws := w_P_isTool) B.pre
  have hown : s.vm.findClass R_P = some m.cls := findClass_of_methodNamed B.named
  have hlocks := B.notSynchronized
  have hl := lv_entry ([.int x]) (n := 1) (Nat.le_of_ble_eq_true rfl)
  rw [lg_entry_eq]
  generalize (lg_sl ([.int x]) ++ List.replicate (1 - (lg_sl ([.int x])).length) Slot.unset).toArray = ls at hl ⊢
  have hl : lv_has ls 1 [(0, .int x)] := hl
  refine lv_iload_n hx hb d_P_isTool_0 rfl (lv_at hl 0 rfl) ?_
  refine lv_i2l hx hb d_P_isTool_1 rfl ?_
  refine lv_ldc2 (v := 3) hx hb hown (hts (.constantLong R_P 189 3) (by decide +kernel)) d_P_isTool_2 ?_
  refine nv_topl (y := lN 3) (by decide +kernel) ?_
  refine r_calli (W.runS (As := [.long x.toInt64, .long (lN 3)]) (rest := []) ⟨hx, hb, hml, hown, hts⟩ (c_P_with l x.toInt64 3 (by decide)) (cwS 2 hts g_P_isTool_P_isWithin rfl rfl rfl (by decide +kernel) ⟨Nat.le_of_ble_eq_true rfl, Nat.le_of_ble_eq_true rfl⟩) p0_preS rfl rfl hl.1 rfl (lv_room (Nat.le_of_ble_eq_true rfl)) d_P_isTool_5 ⟨Nat.le_of_ble_eq_true rfl, Nat.le_of_ble_eq_true rfl⟩) ?_
  exact W.zret (v := bI (inL 0 3 x.toInt64)) hx hb hr (nar_b (by first | exact Or.inl rfl | exact Or.inr rfl | exact bI_01)) (fun t ht hW => ⟨_, rfl, bI_congr inL_R, ht⟩) t_nil d_P_isTool_8

abbrev b_P_isDayFromToday : ByteArray := prog_1_method_33_code
def y_P_isDayFromToday : MethodName := ⟨"PartShelves", "isDayFromToday", "(I)Z"⟩
theorem d_P_isDayFromToday_0 : decode b_P_isDayFromToday 0 = .ok (.iload_n 1, 1) := by decide +kernel
theorem d_P_isDayFromToday_1 : decode b_P_isDayFromToday 1 = .ok (.aload_n 0, 1) := by decide +kernel
theorem d_P_isDayFromToday_2 : decode b_P_isDayFromToday 2 = .ok (.getfield 64, 3) := by decide +kernel
theorem d_P_isDayFromToday_5 : decode b_P_isDayFromToday 5 = .ok (.if_icmp .lt 13, 3) := by decide +kernel
theorem d_P_isDayFromToday_8 : decode b_P_isDayFromToday 8 = .ok (.iload_n 1, 1) := by decide +kernel
theorem d_P_isDayFromToday_9 : decode b_P_isDayFromToday 9 = .ok (.ldc 235, 2) := by decide +kernel
theorem d_P_isDayFromToday_11 : decode b_P_isDayFromToday 11 = .ok (.if_icmp .gt 7, 3) := by decide +kernel
theorem d_P_isDayFromToday_14 : decode b_P_isDayFromToday 14 = .ok (.iconst 1, 1) := by decide +kernel
theorem d_P_isDayFromToday_15 : decode b_P_isDayFromToday 15 = .ok (.goto 4, 3) := by decide +kernel
theorem d_P_isDayFromToday_18 : decode b_P_isDayFromToday 18 = .ok (.iconst 0, 1) := by decide +kernel
theorem d_P_isDayFromToday_19 : decode b_P_isDayFromToday 19 = .ok (.ireturn, 1) := by decide +kernel
def w_P_isDayFromToday : List Cond := .code y_P_isDayFromToday b_P_isDayFromToday 2 (some .boolean) :: ([.fieldLink "PartShelves" 64 "PartShelves" "currentDay" "I", .constant "PartShelves" 235 100000] ++ u_ws R_P F_P 13)
set_option maxHeartbeats 4000000 in
set_option maxRecDepth 100000 in
theorem c_P_day (l : Launch) (D : va_G) (kC : Nat → ClassId) (ad : Nat → Nat) (qR : Nat → Nat) (lp : Nat) (la : Nat) (lj : Nat) (qM : Nat → Nat) (qN : Nat → Nat) (ft : Nat → Int32) (wr : Nat → Nat) (tl : Nat → Int32) (tn : Nat) (bo : Nat → Int32) (lD : Nat → Nat) (td : Nat) (x : Int32) (htd : td ≤ 100000) : Met l y_P_isDayFromToday w_P_isDayFromToday ({ frames := 0, cells := 0, slots := 0, locals := 0 } : Room) (gPr cls D (tyL kC) [.ref (ad 0), .int x] (fl [(wP kC ad qR lp la lj qM qN ft wr tl tn bo lD td)])) (vp_Si (fun r => r = bI (inI td 100000 x))) 0 0 (fun _ => False) := by
  refine Met.ofW (cc := b_P_isDayFromToday) (maxL := 2) (ret := (some .boolean)) (by decide) rfl ?_
  intro p e s m args below meth c s₁ B hml hv
  obtain ⟨rfl, hP, hK⟩ := hv
  have hx := B.exec
  have hb := B.bytes
  have hr := B.returns
  have hts := atoms_spec (ws := w_P_isDayFromToday) B.pre
  have hown : s.vm.findClass R_P = some m.cls := findClass_of_methodNamed B.named
  have hlocks := B.notSynchronized
  have hl := lv_entry ([.ref (ad 0), .int x]) (n := 2) (Nat.le_of_ble_eq_true rfl)
  rw [lg_entry_eq]
  generalize (lg_sl ([.ref (ad 0), .int x]) ++ List.replicate (2 - (lg_sl ([.ref (ad 0), .int x])).length) Slot.unset).toArray = ls at hl ⊢
  have hl : lv_has ls 2 [(0, .ref (ad 0)), (1, .int x)] := hl
  refine lv_iload_n hx hb d_P_isDayFromToday_0 rfl (lv_at hl 1 rfl) ?_
  refine lv_aload_n hx hb d_P_isDayFromToday_1 rfl (lv_at hl 0 rfl) ?_
  refine fv_get (ci := 0) (v := .int (nI td)) (C := R_P) (T := F_P) (N := 13) hx hb hts (by decide +kernel) hown hK hP 0 0 rfl rfl rfl 12 (by decide) (hts (.fieldLink R_P 64 "PartShelves" "currentDay" "I") (by decide +kernel)) (fun _ h9 => h9) rfl d_P_isDayFromToday_2 ?_
  refine lv_icmp_lt (tgt := 18) hx hb d_P_isDayFromToday_5 (by decide) (fun h1 => ?_) (fun h1 => ?_)
  · refine lv_iconst (v := nI 0) hx hb d_P_isDayFromToday_18 (by decide) ?_
    exact W.zret (v := nI 0) hx hb hr (nar_b (by first | exact Or.inl rfl | exact Or.inr rfl | exact bI_01)) (fun t ht hW => ⟨_, rfl, (bI_f (fun q => by first | exact absurd ((nI_leI2 (by decide)).mpr q.2) (Int32.not_le.mpr h2) | exact absurd ((nI_leI1 (by omega)).mpr q.1) (Int32.not_le.mpr h1))).symm, ht⟩) t_nil d_P_isDayFromToday_19
  · refine lv_iload_n hx hb d_P_isDayFromToday_8 rfl (lv_at hl 1 rfl) ?_
    refine lv_ldc (v := 100000) hx hb hown (hts (.constant R_P 235 100000) (by decide +kernel)) d_P_isDayFromToday_9 ?_
    refine nv_topi (y := nI 100000) (by decide +kernel) ?_
    refine lv_icmp_gt (tgt := 18) hx hb d_P_isDayFromToday_11 (by decide) (fun h2 => ?_) (fun h2 => ?_)
    · refine lv_iconst (v := nI 0) hx hb d_P_isDayFromToday_18 (by decide) ?_
      exact W.zret (v := nI 0) hx hb hr (nar_b (by first | exact Or.inl rfl | exact Or.inr rfl | exact bI_01)) (fun t ht hW => ⟨_, rfl, (bI_f (fun q => by first | exact absurd ((nI_leI2 (by decide)).mpr q.2) (Int32.not_le.mpr h2) | exact absurd ((nI_leI1 (by omega)).mpr q.1) (Int32.not_le.mpr h1))).symm, ht⟩) t_nil d_P_isDayFromToday_19
    · refine lv_iconst (v := nI 1) hx hb d_P_isDayFromToday_14 (by decide) ?_
      refine lv_goto (tgt := 19) hx hb d_P_isDayFromToday_15 (by decide) ?_
      exact W.zret (v := nI 1) hx hb hr (nar_b (by first | exact Or.inl rfl | exact Or.inr rfl | exact bI_01)) (fun t ht hW => ⟨_, rfl, (bI_t ⟨(nI_leI1 (by omega)).mp (Int32.not_lt.mp h1), (nI_leI2 (by decide)).mp (Int32.not_lt.mp h2)⟩).symm, ht⟩) t_nil d_P_isDayFromToday_19

abbrev b_P_partAt : ByteArray := prog_1_method_34_code
def y_P_partAt : MethodName := ⟨"PartShelves", "partAt", "(I)LPartShelves$Part;"⟩
theorem d_P_partAt_0 : decode b_P_partAt 0 = .ok (.iload_n 1, 1) := by decide +kernel
theorem d_P_partAt_1 : decode b_P_partAt 1 = .ok (.ifCond .lt 28, 3) := by decide +kernel
theorem d_P_partAt_4 : decode b_P_partAt 4 = .ok (.iload_n 1, 1) := by decide +kernel
theorem d_P_partAt_5 : decode b_P_partAt 5 = .ok (.aload_n 0, 1) := by decide +kernel
theorem d_P_partAt_6 : decode b_P_partAt 6 = .ok (.getfield 23, 3) := by decide +kernel
theorem d_P_partAt_9 : decode b_P_partAt 9 = .ok (.invokevirtual 89, 3) := by decide +kernel
theorem d_P_partAt_12 : decode b_P_partAt 12 = .ok (.if_icmp .ge 17, 3) := by decide +kernel
theorem d_P_partAt_15 : decode b_P_partAt 15 = .ok (.aload_n 0, 1) := by decide +kernel
theorem d_P_partAt_16 : decode b_P_partAt 16 = .ok (.getfield 23, 3) := by decide +kernel
theorem d_P_partAt_19 : decode b_P_partAt 19 = .ok (.iload_n 1, 1) := by decide +kernel
theorem d_P_partAt_20 : decode b_P_partAt 20 = .ok (.invokevirtual 146, 3) := by decide +kernel
theorem d_P_partAt_23 : decode b_P_partAt 23 = .ok (.checkcast 95, 3) := by decide +kernel
theorem d_P_partAt_26 : decode b_P_partAt 26 = .ok (.goto 4, 3) := by decide +kernel
theorem d_P_partAt_29 : decode b_P_partAt 29 = .ok (.aconst_null, 1) := by decide +kernel
theorem d_P_partAt_30 : decode b_P_partAt 30 = .ok (.areturn, 1) := by decide +kernel
def w_P_partAt : List Cond := .code y_P_partAt b_P_partAt 2 (some (.object "PartShelves$Part")) :: ([.fieldLink "PartShelves" 23 "PartShelves" "parts" "Ljava/util/ArrayList;", .methodLink "PartShelves" 89 ⟨"java/util/ArrayList", "size", "()I"⟩, .instanceMethod ⟨"java/util/ArrayList", "size", "()I"⟩, .selects "java/util/ArrayList" ⟨"java/util/ArrayList", "size", "()I"⟩ ⟨"java/util/ArrayList", "size", "()I"⟩, .initialized "java/util/ArrayList", .code ⟨"java/util/ArrayList", "size", "()I"⟩ prog_18_method_8_code 1 (some .int), .fieldLink "java/util/ArrayList" 48 "java/util/ArrayList" "size" "I", .sameField "java/util/ArrayList" "java/util/AbstractList" "modCount" "I", .methodLink "PartShelves" 146 ⟨"java/util/ArrayList", "get", "(I)Ljava/lang/Object;"⟩, .instanceMethod ⟨"java/util/ArrayList", "get", "(I)Ljava/lang/Object;"⟩, .selects "java/util/ArrayList" ⟨"java/util/ArrayList", "get", "(I)Ljava/lang/Object;"⟩ ⟨"java/util/ArrayList", "get", "(I)Ljava/lang/Object;"⟩, .code ⟨"java/util/ArrayList", "get", "(I)Ljava/lang/Object;"⟩ prog_18_method_20_code 2 (some (.object "java/lang/Object")), .methodLink "java/util/ArrayList" 118 ⟨"java/util/Objects", "checkIndex", "(II)I"⟩, .static ⟨"java/util/Objects", "checkIndex", "(II)I"⟩, .initialized "java/util/Objects", .code ⟨"java/util/Objects", "checkIndex", "(II)I"⟩ prog_22_method_17_code 2 (some .int), .methodLink "java/util/Objects" 105 ⟨"jdk/internal/util/Preconditions", "checkIndex", "(IILjava/util/function/BiFunction;)I"⟩, .static ⟨"jdk/internal/util/Preconditions", "checkIndex", "(IILjava/util/function/BiFunction;)I"⟩, .initialized "jdk/internal/util/Preconditions", .code ⟨"jdk/internal/util/Preconditions", "checkIndex", "(IILjava/util/function/BiFunction;)I"⟩ prog_26_method_11_code 3 (some .int), .methodLink "java/util/ArrayList" 123 ⟨"java/util/ArrayList", "elementData", "(I)Ljava/lang/Object;"⟩, .instanceMethod ⟨"java/util/ArrayList", "elementData", "(I)Ljava/lang/Object;"⟩, .selects "java/util/ArrayList" ⟨"java/util/ArrayList", "elementData", "(I)Ljava/lang/Object;"⟩ ⟨"java/util/ArrayList", "elementData", "(I)Ljava/lang/Object;"⟩, .code ⟨"java/util/ArrayList", "elementData", "(I)Ljava/lang/Object;"⟩ prog_18_method_18_code 2 (some (.object "java/lang/Object")), .fieldLink "java/util/ArrayList" 9 "java/util/ArrayList" "elementData" "[Ljava/lang/Object;", .classLink "PartShelves" 95 "PartShelves$Part"] ++ u_ws R_P F_P 13 ++ u_ws R_L F_L 3)
set_option maxRecDepth 20000 in
theorem g_P_partAt_L_size : GoodIn w_P_partAt (wsV R_P 89 R_L y_L_size w_L_size) := goodIn_p _ [6] rfl (by decide +kernel)
set_option maxRecDepth 20000 in
theorem g_P_partAt_L_get : GoodIn w_P_partAt (wsV R_P 146 R_L y_L_get w_L_get) := goodIn_p _ [12, 16, 20, 24] rfl (by decide +kernel)
set_option maxHeartbeats 4000000 in
set_option maxRecDepth 100000 in
theorem c_P_partAt (l : Launch) (D : va_G) (kC : Nat → ClassId) (ad : Nat → Nat) (qR : Nat → Nat) (lp : Nat) (la : Nat) (lj : Nat) (qM : Nat → Nat) (qN : Nat → Nat) (ft : Nat → Int32) (wr : Nat → Nat) (tl : Nat → Int32) (tn : Nat) (bo : Nat → Int32) (lD : Nat → Nat) (td : Nat) (eD : Nat) (mdp : Int32) (xp : Nat) (pn : Nat) (pa : Nat → Nat) (kd : Nat → Nat) (aG : Nat → Nat) (sR : Nat → Nat) (sT : Nat → Nat) (dY : Nat → Nat) (pho : Nat → Int32) (ppe : Nat → Int32) (x : Int32) (h8 : pn ≤ 8) : Met l y_P_partAt w_P_partAt ({ frames := 3, cells := 0, slots := 0, locals := 65 } : Room) (gPrz cls D (tyL kC) [.ref (ad 0), .int x] (fl [(wP kC ad qR lp la lj qM qN ft wr tl tn bo lD td), (wLq kC eD lp mdp xp pn pa), (pQ pa kd aG sR sT dY pho ppe pn)])) (va_Sq (fun r => r = if inR x pn then some (pa (nOf x)) else none)) 0 0 (fun _ => False) := by
  refine Met.ofW (cc := b_P_partAt) (maxL := 2) (ret := (some (.object "PartShelves$Part"))) (by decide) rfl ?_
  intro p e s m args below meth c s₁ B hml hv
  obtain ⟨rfl, hP, hK, hzw⟩ := hv
  have hx := B.exec
  have hb := B.bytes
  have hr := B.returns
  have hts := atoms_spec (ws := w_P_partAt) B.pre
  have hown : s.vm.findClass R_P = some m.cls := findClass_of_methodNamed B.named
  have hlocks := B.notSynchronized
  have hl := lv_entry ([.ref (ad 0), .int x]) (n := 2) (Nat.le_of_ble_eq_true rfl)
  rw [lg_entry_eq]
  generalize (lg_sl ([.ref (ad 0), .int x]) ++ List.replicate (2 - (lg_sl ([.ref (ad 0), .int x])).length) Slot.unset).toArray = ls at hl ⊢
  have hl : lv_has ls 2 [(0, .ref (ad 0)), (1, .int x)] := hl
  refine lv_iload_n hx hb d_P_partAt_0 rfl (lv_at hl 1 rfl) ?_
  refine lv_if_lt (tgt := 29) hx hb d_P_partAt_1 (by decide) (fun h0 => ?_) (fun h0 => ?_)
  · refine lv_null hx hb d_P_partAt_29 ?_
    exact W.aret (v := .null) hx hb hr (Or.inl ⟨_, rfl⟩) (Or.inl rfl) (fun t ht hW => ⟨none, rfl, (if_neg (by first | exact inR_ge (by omega) h1 | exact inR_lt h0)).symm, ht⟩) t_nil d_P_partAt_30
  · refine lv_iload_n hx hb d_P_partAt_4 rfl (lv_at hl 1 rfl) ?_
    refine lv_aload_n hx hb d_P_partAt_5 rfl (lv_at hl 0 rfl) ?_
    refine fv_get (ci := 0) (v := .ref lp) (C := R_P) (T := F_P) (N := 13) hx hb hts (by decide +kernel) hown hK hP 0 0 rfl rfl rfl 2 (by decide) (hts (.fieldLink R_P 23 "PartShelves" "parts" "Ljava/util/ArrayList;") (by decide +kernel)) (fun _ h9 => h9) rfl d_P_partAt_6 ?_
    refine r_calli (W.runV (As := []) (rest := [.int x]) ⟨hx, hb, hml, hown, hts⟩ (c_Lq_size l D kC eD lp mdp xp pn pa) (cwV 0 hts g_P_partAt_L_size rfl rfl rfl (by decide +kernel) ⟨Nat.le_of_ble_eq_true rfl, Nat.le_of_ble_eq_true rfl⟩) (r_preV (q_recv hK hP 1 rfl) hK (fl_sub hP [1] rfl)) rfl rfl hl.1 rfl (lv_room (Nat.le_of_ble_eq_true rfl)) d_P_partAt_9 ⟨Nat.le_of_ble_eq_true rfl, Nat.le_of_ble_eq_true rfl⟩) ?_
    refine lv_icmp_ge (tgt := 29) hx hb d_P_partAt_12 (by decide) (fun h1 => ?_) (fun h1 => ?_)
    · refine lv_null hx hb d_P_partAt_29 ?_
      exact W.aret (v := .null) hx hb hr (Or.inl ⟨_, rfl⟩) (Or.inl rfl) (fun t ht hW => ⟨none, rfl, (if_neg (by first | exact inR_ge (by omega) h1 | exact inR_lt h0)).symm, ht⟩) t_nil d_P_partAt_30
    · obtain ⟨j, hj, rfl⟩ := in_of (by omega) h0 h1
      refine lv_aload_n hx hb d_P_partAt_15 rfl (lv_at hl 0 rfl) ?_
      refine fv_get (ci := 0) (v := .ref lp) (C := R_P) (T := F_P) (N := 13) hx hb hts (by decide +kernel) hown hK hP 0 0 rfl rfl rfl 2 (by decide) (hts (.fieldLink R_P 23 "PartShelves" "parts" "Ljava/util/ArrayList;") (by decide +kernel)) (fun _ h9 => h9) rfl d_P_partAt_16 ?_
      refine lv_iload_n hx hb d_P_partAt_19 rfl (lv_at hl 1 rfl) ?_
      refine r_callq (W.runV (As := [.int (nI j)]) (rest := []) ⟨hx, hb, hml, hown, hts⟩ (c_Lq_get l D kC eD lp mdp xp pn pa j (hj) (by omega)) (cwV 1 hts g_P_partAt_L_get rfl rfl rfl (by decide +kernel) ⟨Nat.le_of_ble_eq_true rfl, Nat.le_of_ble_eq_true rfl⟩) (r_preV (q_recv hK hP 1 rfl) hK (fl_sub hP [1] rfl)) rfl rfl hl.1 rfl (lv_room (Nat.le_of_ble_eq_true rfl)) d_P_partAt_20 ⟨Nat.le_of_ble_eq_true rfl, Nat.le_of_ble_eq_true rfl⟩) ?_
      refine W.eq (g2 := F0 m 23 ls [.ref (pa j)]) rfl ?_
      have hPez1 := hP
      have ez1 : fl [(wP kC ad qR lp la lj qM qN ft wr tl tn bo lD td), (wLq kC eD lp mdp xp pn pa), (pQ pa kd aG sR sT dY pho ppe pn)] = fl [(wP kC ad qR lp la lj qM qN ft wr tl tn bo lD td), (wLq kC eD lp mdp xp pn pa), (pQ pa kd aG sR sT dY pho ppe j), (wQ (pa j) (kd j) (aG j) (sR j) (sT j) (dY j) (pho j) (ppe j)), (pQr pa kd aG sR sT dY pho ppe pn j)] := zm [(wP kC ad qR lp la lj qM qN ft wr tl tn bo lD td), (wLq kC eD lp mdp xp pn pa)] [] (g := fun i => (wQ (pa i) (kd i) (aG i) (sR i) (sT i) (dY i) (pho i) (ppe i))) (hj)
      have hP : va_P D cls (fl [(wP kC ad qR lp la lj qM qN ft wr tl tn bo lD td), (wLq kC eD lp mdp xp pn pa), (pQ pa kd aG sR sT dY pho ppe j), (wQ (pa j) (kd j) (aG j) (sR j) (sT j) (dY j) (pho j) (ppe j)), (pQr pa kd aG sR sT dY pho ppe pn j)]) s.heap := by rw [← ez1]; exact hP
      refine va_castY (C := R_Q) hx hb hown (hts (.classLink R_P 95 "PartShelves$Part") (by decide +kernel)) (hzw.1 _ (by decide +kernel)) (f_recv (ci := 4) (q0 := 0) hK hP 3 rfl rfl rfl) d_P_partAt_23 ?_
      refine lv_goto (tgt := 30) hx hb d_P_partAt_26 (by decide) ?_
      exact W.aret (v := .ref (pa j)) hx hb hr (Or.inl ⟨_, rfl⟩) (Or.inr ⟨_, rfl⟩) (fun t ht hW => ⟨some (pa j), rfl, by rw [if_pos ((inR_nI (by omega)).mpr hj), nOf_nI (by omega)], ht⟩) t_nil d_P_partAt_30

abbrev b_P_askAt : ByteArray := prog_1_method_35_code
def y_P_askAt : MethodName := ⟨"PartShelves", "askAt", "(I)LPartShelves$Ask;"⟩
theorem d_P_askAt_0 : decode b_P_askAt 0 = .ok (.iload_n 1, 1) := by decide +kernel
theorem d_P_askAt_1 : decode b_P_askAt 1 = .ok (.ifCond .lt 28, 3) := by decide +kernel
theorem d_P_askAt_4 : decode b_P_askAt 4 = .ok (.iload_n 1, 1) := by decide +kernel
theorem d_P_askAt_5 : decode b_P_askAt 5 = .ok (.aload_n 0, 1) := by decide +kernel
theorem d_P_askAt_6 : decode b_P_askAt 6 = .ok (.getfield 27, 3) := by decide +kernel
theorem d_P_askAt_9 : decode b_P_askAt 9 = .ok (.invokevirtual 89, 3) := by decide +kernel
theorem d_P_askAt_12 : decode b_P_askAt 12 = .ok (.if_icmp .ge 17, 3) := by decide +kernel
theorem d_P_askAt_15 : decode b_P_askAt 15 = .ok (.aload_n 0, 1) := by decide +kernel
theorem d_P_askAt_16 : decode b_P_askAt 16 = .ok (.getfield 27, 3) := by decide +kernel
theorem d_P_askAt_19 : decode b_P_askAt 19 = .ok (.iload_n 1, 1) := by decide +kernel
theorem d_P_askAt_20 : decode b_P_askAt 20 = .ok (.invokevirtual 146, 3) := by decide +kernel
theorem d_P_askAt_23 : decode b_P_askAt 23 = .ok (.checkcast 123, 3) := by decide +kernel
theorem d_P_askAt_26 : decode b_P_askAt 26 = .ok (.goto 4, 3) := by decide +kernel
theorem d_P_askAt_29 : decode b_P_askAt 29 = .ok (.aconst_null, 1) := by decide +kernel
theorem d_P_askAt_30 : decode b_P_askAt 30 = .ok (.areturn, 1) := by decide +kernel
def w_P_askAt : List Cond := .code y_P_askAt b_P_askAt 2 (some (.object "PartShelves$Ask")) :: ([.fieldLink "PartShelves" 27 "PartShelves" "asks" "Ljava/util/ArrayList;", .methodLink "PartShelves" 89 ⟨"java/util/ArrayList", "size", "()I"⟩, .instanceMethod ⟨"java/util/ArrayList", "size", "()I"⟩, .selects "java/util/ArrayList" ⟨"java/util/ArrayList", "size", "()I"⟩ ⟨"java/util/ArrayList", "size", "()I"⟩, .initialized "java/util/ArrayList", .code ⟨"java/util/ArrayList", "size", "()I"⟩ prog_18_method_8_code 1 (some .int), .fieldLink "java/util/ArrayList" 48 "java/util/ArrayList" "size" "I", .sameField "java/util/ArrayList" "java/util/AbstractList" "modCount" "I", .methodLink "PartShelves" 146 ⟨"java/util/ArrayList", "get", "(I)Ljava/lang/Object;"⟩, .instanceMethod ⟨"java/util/ArrayList", "get", "(I)Ljava/lang/Object;"⟩, .selects "java/util/ArrayList" ⟨"java/util/ArrayList", "get", "(I)Ljava/lang/Object;"⟩ ⟨"java/util/ArrayList", "get", "(I)Ljava/lang/Object;"⟩, .code ⟨"java/util/ArrayList", "get", "(I)Ljava/lang/Object;"⟩ prog_18_method_20_code 2 (some (.object "java/lang/Object")), .methodLink "java/util/ArrayList" 118 ⟨"java/util/Objects", "checkIndex", "(II)I"⟩, .static ⟨"java/util/Objects", "checkIndex", "(II)I"⟩, .initialized "java/util/Objects", .code ⟨"java/util/Objects", "checkIndex", "(II)I"⟩ prog_22_method_17_code 2 (some .int), .methodLink "java/util/Objects" 105 ⟨"jdk/internal/util/Preconditions", "checkIndex", "(IILjava/util/function/BiFunction;)I"⟩, .static ⟨"jdk/internal/util/Preconditions", "checkIndex", "(IILjava/util/function/BiFunction;)I"⟩, .initialized "jdk/internal/util/Preconditions", .code ⟨"jdk/internal/util/Preconditions", "checkIndex", "(IILjava/util/function/BiFunction;)I"⟩ prog_26_method_11_code 3 (some .int), .methodLink "java/util/ArrayList" 123 ⟨"java/util/ArrayList", "elementData", "(I)Ljava/lang/Object;"⟩, .instanceMethod ⟨"java/util/ArrayList", "elementData", "(I)Ljava/lang/Object;"⟩, .selects "java/util/ArrayList" ⟨"java/util/ArrayList", "elementData", "(I)Ljava/lang/Object;"⟩ ⟨"java/util/ArrayList", "elementData", "(I)Ljava/lang/Object;"⟩, .code ⟨"java/util/ArrayList", "elementData", "(I)Ljava/lang/Object;"⟩ prog_18_method_18_code 2 (some (.object "java/lang/Object")), .fieldLink "java/util/ArrayList" 9 "java/util/ArrayList" "elementData" "[Ljava/lang/Object;", .classLink "PartShelves" 123 "PartShelves$Ask"] ++ u_ws R_P F_P 13 ++ u_ws R_L F_L 3)
set_option maxRecDepth 20000 in
theorem g_P_askAt_L_size : GoodIn w_P_askAt (wsV R_P 89 R_L y_L_size w_L_size) := goodIn_p _ [6] rfl (by decide +kernel)
set_option maxRecDepth 20000 in
theorem g_P_askAt_L_get : GoodIn w_P_askAt (wsV R_P 146 R_L y_L_get w_L_get) := goodIn_p _ [12, 16, 20, 24] rfl (by decide +kernel)
set_option maxHeartbeats 4000000 in
set_option maxRecDepth 100000 in
theorem c_P_askAt (l : Launch) (D : va_G) (kC : Nat → ClassId) (ad : Nat → Nat) (qR : Nat → Nat) (lp : Nat) (la : Nat) (lj : Nat) (qM : Nat → Nat) (qN : Nat → Nat) (ft : Nat → Int32) (wr : Nat → Nat) (tl : Nat → Int32) (tn : Nat) (bo : Nat → Int32) (lD : Nat → Nat) (td : Nat) (eD : Nat) (mda : Int32) (xa : Nat) (an : Nat) (aa : Nat → Nat) (anu : Nat → Nat) (pd : Nat → Nat) (cN : Nat → Nat) (mN : Nat → Nat) (aop : Nat → Int32) (x : Int32) (h8 : an ≤ 8) : Met l y_P_askAt w_P_askAt ({ frames := 3, cells := 0, slots := 0, locals := 65 } : Room) (gPrz cls D (tyL kC) [.ref (ad 0), .int x] (fl [(wP kC ad qR lp la lj qM qN ft wr tl tn bo lD td), (wLq kC eD la mda xa an aa), (pA aa anu pd cN mN aop an)])) (va_Sq (fun r => r = if inR x an then some (aa (nOf x)) else none)) 0 0 (fun _ => False) := by
  refine Met.ofW (cc := b_P_askAt) (maxL := 2) (ret := (some (.object "PartShelves$Ask"))) (by decide) rfl ?_
  intro p e s m args below meth c s₁ B hml hv
  obtain ⟨rfl, hP, hK, hzw⟩ := hv
  have hx := B.exec
  have hb := B.bytes
  have hr := B.returns
  have hts := atoms_spec (ws := w_P_askAt) B.pre
  have hown : s.vm.findClass R_P = some m.cls := findClass_of_methodNamed B.named
  have hlocks := B.notSynchronized
  have hl := lv_entry ([.ref (ad 0), .int x]) (n := 2) (Nat.le_of_ble_eq_true rfl)
  rw [lg_entry_eq]
  generalize (lg_sl ([.ref (ad 0), .int x]) ++ List.replicate (2 - (lg_sl ([.ref (ad 0), .int x])).length) Slot.unset).toArray = ls at hl ⊢
  have hl : lv_has ls 2 [(0, .ref (ad 0)), (1, .int x)] := hl
  refine lv_iload_n hx hb d_P_askAt_0 rfl (lv_at hl 1 rfl) ?_
  refine lv_if_lt (tgt := 29) hx hb d_P_askAt_1 (by decide) (fun h0 => ?_) (fun h0 => ?_)
  · refine lv_null hx hb d_P_askAt_29 ?_
    exact W.aret (v := .null) hx hb hr (Or.inl ⟨_, rfl⟩) (Or.inl rfl) (fun t ht hW => ⟨none, rfl, (if_neg (by first | exact inR_ge (by omega) h1 | exact inR_lt h0)).symm, ht⟩) t_nil d_P_askAt_30
  · refine lv_iload_n hx hb d_P_askAt_4 rfl (lv_at hl 1 rfl) ?_
    refine lv_aload_n hx hb d_P_askAt_5 rfl (lv_at hl 0 rfl) ?_
    refine fv_get (ci := 0) (v := .ref la) (C := R_P) (T := F_P) (N := 13) hx hb hts (by decide +kernel) hown hK hP 0 0 rfl rfl rfl 3 (by decide) (hts (.fieldLink R_P 27 "PartShelves" "asks" "Ljava/util/ArrayList;") (by decide +kernel)) (fun _ h9 => h9) rfl d_P_askAt_6 ?_
    refine r_calli (W.runV (As := []) (rest := [.int x]) ⟨hx, hb, hml, hown, hts⟩ (c_Lq_size l D kC eD la mda xa an aa) (cwV 0 hts g_P_askAt_L_size rfl rfl rfl (by decide +kernel) ⟨Nat.le_of_ble_eq_true rfl, Nat.le_of_ble_eq_true rfl⟩) (r_preV (q_recv hK hP 1 rfl) hK (fl_sub hP [1] rfl)) rfl rfl hl.1 rfl (lv_room (Nat.le_of_ble_eq_true rfl)) d_P_askAt_9 ⟨Nat.le_of_ble_eq_true rfl, Nat.le_of_ble_eq_true rfl⟩) ?_
    refine lv_icmp_ge (tgt := 29) hx hb d_P_askAt_12 (by decide) (fun h1 => ?_) (fun h1 => ?_)
    · refine lv_null hx hb d_P_askAt_29 ?_
      exact W.aret (v := .null) hx hb hr (Or.inl ⟨_, rfl⟩) (Or.inl rfl) (fun t ht hW => ⟨none, rfl, (if_neg (by first | exact inR_ge (by omega) h1 | exact inR_lt h0)).symm, ht⟩) t_nil d_P_askAt_30
    · obtain ⟨j, hj, rfl⟩ := in_of (by omega) h0 h1
      refine lv_aload_n hx hb d_P_askAt_15 rfl (lv_at hl 0 rfl) ?_
      refine fv_get (ci := 0) (v := .ref la) (C := R_P) (T := F_P) (N := 13) hx hb hts (by decide +kernel) hown hK hP 0 0 rfl rfl rfl 3 (by decide) (hts (.fieldLink R_P 27 "PartShelves" "asks" "Ljava/util/ArrayList;") (by decide +kernel)) (fun _ h9 => h9) rfl d_P_askAt_16 ?_
      refine lv_iload_n hx hb d_P_askAt_19 rfl (lv_at hl 1 rfl) ?_
      refine r_callq (W.runV (As := [.int (nI j)]) (rest := []) ⟨hx, hb, hml, hown, hts⟩ (c_Lq_get l D kC eD la mda xa an aa j (hj) (by omega)) (cwV 1 hts g_P_askAt_L_get rfl rfl rfl (by decide +kernel) ⟨Nat.le_of_ble_eq_true rfl, Nat.le_of_ble_eq_true rfl⟩) (r_preV (q_recv hK hP 1 rfl) hK (fl_sub hP [1] rfl)) rfl rfl hl.1 rfl (lv_room (Nat.le_of_ble_eq_true rfl)) d_P_askAt_20 ⟨Nat.le_of_ble_eq_true rfl, Nat.le_of_ble_eq_true rfl⟩) ?_
      refine W.eq (g2 := F0 m 23 ls [.ref (aa j)]) rfl ?_
      have hPez1 := hP
      have ez1 : fl [(wP kC ad qR lp la lj qM qN ft wr tl tn bo lD td), (wLq kC eD la mda xa an aa), (pA aa anu pd cN mN aop an)] = fl [(wP kC ad qR lp la lj qM qN ft wr tl tn bo lD td), (wLq kC eD la mda xa an aa), (pA aa anu pd cN mN aop j), (wA (aa j) (anu j) (pd j) (cN j) (mN j) (aop j)), (pAr aa anu pd cN mN aop an j)] := zm [(wP kC ad qR lp la lj qM qN ft wr tl tn bo lD td), (wLq kC eD la mda xa an aa)] [] (g := fun i => (wA (aa i) (anu i) (pd i) (cN i) (mN i) (aop i))) (hj)
      have hP : va_P D cls (fl [(wP kC ad qR lp la lj qM qN ft wr tl tn bo lD td), (wLq kC eD la mda xa an aa), (pA aa anu pd cN mN aop j), (wA (aa j) (anu j) (pd j) (cN j) (mN j) (aop j)), (pAr aa anu pd cN mN aop an j)]) s.heap := by rw [← ez1]; exact hP
      refine va_castY (C := R_A) hx hb hown (hts (.classLink R_P 123 "PartShelves$Ask") (by decide +kernel)) (hzw.1 _ (by decide +kernel)) (f_recv (ci := 1) (q0 := 0) hK hP 3 rfl rfl rfl) d_P_askAt_23 ?_
      refine lv_goto (tgt := 30) hx hb d_P_askAt_26 (by decide) ?_
      exact W.aret (v := .ref (aa j)) hx hb hr (Or.inl ⟨_, rfl⟩) (Or.inr ⟨_, rfl⟩) (fun t ht hW => ⟨some (aa j), rfl, by rw [if_pos ((inR_nI (by omega)).mpr hj), nOf_nI (by omega)], ht⟩) t_nil d_P_askAt_30

abbrev b_P_pairWorth : ByteArray := prog_1_method_36_code
def y_P_pairWorth : MethodName := ⟨"PartShelves", "pairWorth", "(LPartShelves$Part;LPartShelves$Ask;)J"⟩
theorem d_P_pairWorth_0 : decode b_P_pairWorth 0 = .ok (.aload_n 2, 1) := by decide +kernel
theorem d_P_pairWorth_1 : decode b_P_pairWorth 1 = .ok (.getfield 132, 3) := by decide +kernel
theorem d_P_pairWorth_4 : decode b_P_pairWorth 4 = .ok (.ifCond .eq 23, 3) := by decide +kernel
theorem d_P_pairWorth_7 : decode b_P_pairWorth 7 = .ok (.aload_n 0, 1) := by decide +kernel
theorem d_P_pairWorth_8 : decode b_P_pairWorth 8 = .ok (.getfield 16, 3) := by decide +kernel
theorem d_P_pairWorth_11 : decode b_P_pairWorth 11 = .ok (.aload_n 1, 1) := by decide +kernel
theorem d_P_pairWorth_12 : decode b_P_pairWorth 12 = .ok (.getfield 196, 3) := by decide +kernel
theorem d_P_pairWorth_15 : decode b_P_pairWorth 15 = .ok (.bipush 6, 2) := by decide +kernel
theorem d_P_pairWorth_17 : decode b_P_pairWorth 17 = .ok (.imul, 1) := by decide +kernel
theorem d_P_pairWorth_18 : decode b_P_pairWorth 18 = .ok (.aload_n 2, 1) := by decide +kernel
theorem d_P_pairWorth_19 : decode b_P_pairWorth 19 = .ok (.getfield 236, 3) := by decide +kernel
theorem d_P_pairWorth_22 : decode b_P_pairWorth 22 = .ok (.iadd, 1) := by decide +kernel
theorem d_P_pairWorth_23 : decode b_P_pairWorth 23 = .ok (.baload, 1) := by decide +kernel
theorem d_P_pairWorth_24 : decode b_P_pairWorth 24 = .ok (.ifCond .ne 7, 3) := by decide +kernel
theorem d_P_pairWorth_27 : decode b_P_pairWorth 27 = .ok (.ldc2_w 108, 3) := by decide +kernel
theorem d_P_pairWorth_30 : decode b_P_pairWorth 30 = .ok (.lreturn, 1) := by decide +kernel
theorem d_P_pairWorth_31 : decode b_P_pairWorth 31 = .ok (.aload_n 2, 1) := by decide +kernel
theorem d_P_pairWorth_32 : decode b_P_pairWorth 32 = .ok (.getfield 239, 3) := by decide +kernel
theorem d_P_pairWorth_35 : decode b_P_pairWorth 35 = .ok (.aload_n 0, 1) := by decide +kernel
theorem d_P_pairWorth_36 : decode b_P_pairWorth 36 = .ok (.getfield 10, 3) := by decide +kernel
theorem d_P_pairWorth_39 : decode b_P_pairWorth 39 = .ok (.aload_n 1, 1) := by decide +kernel
theorem d_P_pairWorth_40 : decode b_P_pairWorth 40 = .ok (.getfield 110, 3) := by decide +kernel
theorem d_P_pairWorth_43 : decode b_P_pairWorth 43 = .ok (.invokevirtual 113, 3) := by decide +kernel
theorem d_P_pairWorth_46 : decode b_P_pairWorth 46 = .ok (.lsub, 1) := by decide +kernel
theorem d_P_pairWorth_47 : decode b_P_pairWorth 47 = .ok (.lstore_n 3, 1) := by decide +kernel
theorem d_P_pairWorth_48 : decode b_P_pairWorth 48 = .ok (.lload_n 3, 1) := by decide +kernel
theorem d_P_pairWorth_49 : decode b_P_pairWorth 49 = .ok (.lconst 0, 1) := by decide +kernel
theorem d_P_pairWorth_50 : decode b_P_pairWorth 50 = .ok (.lcmp, 1) := by decide +kernel
theorem d_P_pairWorth_51 : decode b_P_pairWorth 51 = .ok (.ifCond .lt 22, 3) := by decide +kernel
theorem d_P_pairWorth_54 : decode b_P_pairWorth 54 = .ok (.aload_n 1, 1) := by decide +kernel
theorem d_P_pairWorth_55 : decode b_P_pairWorth 55 = .ok (.aload_n 2, 1) := by decide +kernel
theorem d_P_pairWorth_56 : decode b_P_pairWorth 56 = .ok (.getfield 136, 3) := by decide +kernel
theorem d_P_pairWorth_59 : decode b_P_pairWorth 59 = .ok (.aload_n 0, 1) := by decide +kernel
theorem d_P_pairWorth_60 : decode b_P_pairWorth 60 = .ok (.getfield 64, 3) := by decide +kernel
theorem d_P_pairWorth_63 : decode b_P_pairWorth 63 = .ok (.invokevirtual 242, 3) := by decide +kernel
theorem d_P_pairWorth_66 : decode b_P_pairWorth 66 = .ok (.ifCond .eq 7, 3) := by decide +kernel
theorem d_P_pairWorth_69 : decode b_P_pairWorth 69 = .ok (.lload_n 3, 1) := by decide +kernel
theorem d_P_pairWorth_70 : decode b_P_pairWorth 70 = .ok (.goto 6, 3) := by decide +kernel
theorem d_P_pairWorth_73 : decode b_P_pairWorth 73 = .ok (.ldc2_w 108, 3) := by decide +kernel
theorem d_P_pairWorth_76 : decode b_P_pairWorth 76 = .ok (.lreturn, 1) := by decide +kernel
def w_P_pairWorth : List Cond := .code y_P_pairWorth b_P_pairWorth 5 (some .long) :: ([.fieldLink "PartShelves" 132 "PartShelves$Ask" "open" "Z", .fieldLink "PartShelves" 16 "PartShelves" "fitting" "[Z", .fieldLink "PartShelves" 196 "PartShelves$Part" "kind" "I", .fieldLink "PartShelves" 236 "PartShelves$Ask" "product" "I", .constantLong "PartShelves" 108 (-1), .fieldLink "PartShelves" 239 "PartShelves$Ask" "cents" "J", .fieldLink "PartShelves" 10 "PartShelves" "prices" "LPartShelves$PriceRows;", .fieldLink "PartShelves" 110 "PartShelves$Part" "age" "I", .methodLink "PartShelves" 113 ⟨"PartShelves$PriceRows", "at", "(I)J"⟩, .instanceMethod ⟨"PartShelves$PriceRows", "at", "(I)J"⟩, .selects "PartShelves$PriceRows" ⟨"PartShelves$PriceRows", "at", "(I)J"⟩ ⟨"PartShelves$PriceRows", "at", "(I)J"⟩, .initialized "PartShelves$PriceRows", .code ⟨"PartShelves$PriceRows", "at", "(I)J"⟩ prog_6_method_3_code 3 (some .long), .fieldLink "PartShelves$PriceRows" 19 "PartShelves$PriceRows" "count" "I", .fieldLink "PartShelves$PriceRows" 9 "PartShelves$PriceRows" "ages" "[I", .fieldLink "PartShelves$PriceRows" 15 "PartShelves$PriceRows" "cents" "[J", .fieldLink "PartShelves" 136 "PartShelves$Ask" "number" "I", .fieldLink "PartShelves" 64 "PartShelves" "currentDay" "I", .methodLink "PartShelves" 242 ⟨"PartShelves$Part", "isFreeFor", "(II)Z"⟩, .instanceMethod ⟨"PartShelves$Part", "isFreeFor", "(II)Z"⟩, .selects "PartShelves$Part" ⟨"PartShelves$Part", "isFreeFor", "(II)Z"⟩ ⟨"PartShelves$Part", "isFreeFor", "(II)Z"⟩, .initialized "PartShelves$Part", .code ⟨"PartShelves$Part", "isFreeFor", "(II)Z"⟩ prog_5_method_3_code 4 (some .boolean), .methodLink "PartShelves$Part" 34 ⟨"PartShelves$Part", "stateOn", "(I)I"⟩, .instanceMethod ⟨"PartShelves$Part", "stateOn", "(I)I"⟩, .selects "PartShelves$Part" ⟨"PartShelves$Part", "stateOn", "(I)I"⟩ ⟨"PartShelves$Part", "stateOn", "(I)I"⟩, .code ⟨"PartShelves$Part", "stateOn", "(I)I"⟩ prog_5_method_2_code 2 (some .int), .fieldLink "PartShelves$Part" 9 "PartShelves$Part" "state" "I", .fieldLink "PartShelves$Part" 15 "PartShelves$Part" "day" "I", .fieldLink "PartShelves$Part" 18 "PartShelves$Part" "holder" "I"] ++ u_ws R_A F_A 5 ++ u_ws R_P F_P 13 ++ u_ws R_Q F_Q 7 ++ u_ws R_R F_R 3)
set_option maxRecDepth 20000 in
theorem g_P_pairWorth_R_at : GoodIn w_P_pairWorth (wsV R_P 113 R_R y_R_at w_R_at) := goodIn_p _ [13] rfl (by decide +kernel)
set_option maxRecDepth 20000 in
theorem g_P_pairWorth_Q_isFreeFor : GoodIn w_P_pairWorth (wsV R_P 242 R_Q y_Q_isFreeFor w_Q_isFreeFor) := goodIn_p _ [23, 27] rfl (by decide +kernel)
set_option maxHeartbeats 4000000 in
set_option maxRecDepth 100000 in
theorem c_P_pw (l : Launch) (D : va_G) (kC : Nat → ClassId) (ad : Nat → Nat) (qR : Nat → Nat) (lp : Nat) (la : Nat) (lj : Nat) (qM : Nat → Nat) (qN : Nat → Nat) (ft : Nat → Int32) (wr : Nat → Nat) (tl : Nat → Int32) (tn : Nat) (bo : Nat → Int32) (lD : Nat → Nat) (td : Nat) (rA : Nat → Nat) (rC : Nat → Nat) (rn : Nat) (h : Nat) (ki : Nat) (ag : Nat) (se : Nat) (sa : Nat) (dy : Nat) (ho : Int32) (pe : Int32) (q2 : Nat) (nu : Nat) (pr : Nat) (ce : Nat) (mi : Nat) (op : Int32) (hki : ki < 6) (hpr : pr < 6) (hag : ag ≤ 1000) (hce : ce ≤ 1000000) (hsa : sa ≤ 3) (hdy : dy ≤ 100000) (htd : td ≤ 100000) (hrn : rn ≤ 6) (hrA : ∀ j, rA j ≤ 1000) (hrC : ∀ j, rC j ≤ 100000) : Met l y_P_pairWorth w_P_pairWorth ({ frames := 2, cells := 0, slots := 0, locals := 46 } : Room) (gPr cls D (tyL kC) [.ref (ad 0), .ref h, .ref q2] (fl [(wP kC ad qR lp la lj qM qN ft wr tl tn bo lD td), (wR kC qR (fun i => nI (rA i)) (fun i => lN (rC i)) rn), (wQ h ki ag se sa dy ho pe), (wA q2 nu pr ce mi op)])) (vp_Sl (fun r => r = encI (pwO ft rA rC rn td ki ag sa dy ho nu pr ce op))) 0 0 (fun _ => False) := by
  refine Met.ofW (cc := b_P_pairWorth) (maxL := 5) (ret := (some .long)) (by decide) rfl ?_
  intro p e s m args below meth c s₁ B hml hv
  obtain ⟨rfl, hP, hK⟩ := hv
  have hx := B.exec
  have hb := B.bytes
  have hr := B.returns
  have hts := atoms_spec (ws := w_P_pairWorth) B.pre
  have hown : s.vm.findClass R_P = some m.cls := findClass_of_methodNamed B.named
  have hlocks := B.notSynchronized
  have hl := lv_entry ([.ref (ad 0), .ref h, .ref q2]) (n := 5) (Nat.le_of_ble_eq_true rfl)
  rw [lg_entry_eq]
  generalize (lg_sl ([.ref (ad 0), .ref h, .ref q2]) ++ List.replicate (5 - (lg_sl ([.ref (ad 0), .ref h, .ref q2])).length) Slot.unset).toArray = ls at hl ⊢
  have hl : lv_has ls 5 [(0, .ref (ad 0)), (1, .ref h), (2, .ref q2)] := hl
  refine lv_aload_n hx hb d_P_pairWorth_0 rfl (lv_at hl 2 rfl) ?_
  refine fv_get (ci := 1) (v := .int op) (C := R_A) (T := F_A) (N := 5) hx hb hts (by decide +kernel) hown hK hP 3 0 rfl rfl rfl 4 (by decide) (hts (.fieldLink R_P 132 "PartShelves$Ask" "open" "Z") (by decide +kernel)) (fun _ h9 => h9) rfl d_P_pairWorth_1 ?_
  refine lv_if_eq (tgt := 27) hx hb d_P_pairWorth_4 (by decide) (fun h1 => ?_) (fun h1 => ?_)
  · refine lv_ldc2 (v := (-1)) hx hb hown (hts (.constantLong R_P 108 (-1)) (by decide +kernel)) d_P_pairWorth_27 ?_
    exact W.lret (v := (-1)) hx hb hr (fun t ht hW => ⟨_, rfl, by have hC : ¬ pwC ft rA rC rn td ki ag sa dy ho nu pr ce op := fun q => (by first | exact q.2.1 h2 | exact q.1 h1); simp only [pwO]; rw [if_neg hC]; rfl, ht⟩) t_nil d_P_pairWorth_30
  · refine lv_aload_n hx hb d_P_pairWorth_7 rfl (lv_at hl 0 rfl) ?_
    refine fv_get (ci := 0) (v := .ref (ad 1)) (C := R_P) (T := F_P) (N := 13) hx hb hts (by decide +kernel) hown hK hP 0 0 rfl rfl rfl 1 (by decide) (hts (.fieldLink R_P 16 "PartShelves" "fitting" "[Z") (by decide +kernel)) (fun _ h9 => h9) rfl d_P_pairWorth_8 ?_
    refine lv_aload_n hx hb d_P_pairWorth_11 rfl (lv_at hl 1 rfl) ?_
    refine fv_get (ci := 4) (v := .int (nI ki)) (C := R_Q) (T := F_Q) (N := 7) hx hb hts (by decide +kernel) hown hK hP 2 0 rfl rfl rfl 0 (by decide) (hts (.fieldLink R_P 196 "PartShelves$Part" "kind" "I") (by decide +kernel)) (fun _ h9 => h9) rfl d_P_pairWorth_12 ?_
    refine lv_bipush (v := nI 6) hx hb d_P_pairWorth_15 (by decide +kernel) ?_
    refine nv_imul hx hb d_P_pairWorth_17 ?_
    refine lv_aload_n hx hb d_P_pairWorth_18 rfl (lv_at hl 2 rfl) ?_
    refine fv_get (ci := 1) (v := .int (nI pr)) (C := R_A) (T := F_A) (N := 5) hx hb hts (by decide +kernel) hown hK hP 3 0 rfl rfl rfl 1 (by decide) (hts (.fieldLink R_P 236 "PartShelves$Ask" "product" "I") (by decide +kernel)) (fun _ h9 => h9) rfl d_P_pairWorth_19 ?_
    refine nv_iadd hx hb d_P_pairWorth_22 ?_
    refine nv_topi (y := nI (6 * ki + pr)) (by rw [Nat.mul_comm]) ?_
    refine fa_zald hx hb hK hP 0 1 2 rfl rfl rfl (by omega) (by decide) d_P_pairWorth_23 ?_
    refine lv_if_ne (tgt := 31) hx hb d_P_pairWorth_24 (by decide) (fun h2 => ?_) (fun h2 => ?_)
    · refine lv_aload_n hx hb d_P_pairWorth_31 rfl (lv_at hl 2 rfl) ?_
      refine fv_get (ci := 1) (v := .long (lN ce)) (C := R_A) (T := F_A) (N := 5) hx hb hts (by decide +kernel) hown hK hP 3 0 rfl rfl rfl 2 (by decide) (hts (.fieldLink R_P 239 "PartShelves$Ask" "cents" "J") (by decide +kernel)) (fun _ h9 => h9) rfl d_P_pairWorth_32 ?_
      refine lv_aload_n hx hb d_P_pairWorth_35 rfl (lv_at hl 0 rfl) ?_
      refine fv_get (ci := 0) (v := .ref (qR 0)) (C := R_P) (T := F_P) (N := 13) hx hb hts (by decide +kernel) hown hK hP 0 0 rfl rfl rfl 0 (by decide) (hts (.fieldLink R_P 10 "PartShelves" "prices" "LPartShelves$PriceRows;") (by decide +kernel)) (fun _ h9 => h9) rfl d_P_pairWorth_36 ?_
      refine lv_aload_n hx hb d_P_pairWorth_39 rfl (lv_at hl 1 rfl) ?_
      refine fv_get (ci := 4) (v := .int (nI ag)) (C := R_Q) (T := F_Q) (N := 7) hx hb hts (by decide +kernel) hown hK hP 2 0 rfl rfl rfl 1 (by decide) (hts (.fieldLink R_P 110 "PartShelves$Part" "age" "I") (by decide +kernel)) (fun _ h9 => h9) rfl d_P_pairWorth_40 ?_
      refine r_calll (W.runV (As := [.int (nI ag)]) (rest := [.long (lN ce)]) ⟨hx, hb, hml, hown, hts⟩ (c_R_at l D kC qR (fun i => nI (rA i)) (fun i => lN (rC i)) rn (nI ag) (hrn)) (cwV 1 hts g_P_pairWorth_R_at rfl rfl rfl (by decide +kernel) ⟨Nat.le_of_ble_eq_true rfl, Nat.le_of_ble_eq_true rfl⟩) (r_preV (f_recv (ci := 5) (q0 := 0) hK hP 1 rfl rfl rfl) hK (fl_sub hP [1] rfl)) rfl rfl hl.1 rfl (lv_room (Nat.le_of_ble_eq_true rfl)) d_P_pairWorth_43 ⟨Nat.le_of_ble_eq_true rfl, Nat.le_of_ble_eq_true rfl⟩) ?_
      refine nv_topl (y := lN (prM rA rC ag rn)) (prAt_N hrA hag rn) ?_
      have hpm := prM_le (rA := rA) (x := ag) hrC rn
      refine lv_lsub hx hb d_P_pairWorth_46 ?_
      refine lv_lstore_n (lv' := [(3, .long ((lN ce) - (lN (prM rA rC ag rn)))), (0, .ref (ad 0)), (1, .ref h), (2, .ref q2)]) hx hb d_P_pairWorth_47 rfl hl (by decide) rfl (fun ls hl => ?_)
      refine lv_lload_n hx hb d_P_pairWorth_48 rfl (lv_at hl 0 rfl) ?_
      refine lv_lconst (v := lN 0) hx hb d_P_pairWorth_49 (by decide) ?_
      refine lc_lt (tgt := 73) hx hb d_P_pairWorth_50 d_P_pairWorth_51 (by decide) (fun h3 => ?_) (fun h3 => ?_)
      · refine lv_ldc2 (v := (-1)) hx hb hown (hts (.constantLong R_P 108 (-1)) (by decide +kernel)) d_P_pairWorth_73 ?_
        exact W.lret (v := (-1)) hx hb hr (fun t ht hW => ⟨_, rfl, by have hC : ¬ pwC ft rA rC rn td ki ag sa dy ho nu pr ce op := fun q => (by first | exact bI_0.mp h4 q.2.2.2 | exact absurd ((dif_lt (by omega) (by omega)).mp h3) (Nat.not_lt.mpr q.2.2.1)); simp only [pwO]; rw [if_neg hC]; rfl, ht⟩) t_nil d_P_pairWorth_76
      · have h3 : prM rA rC ag rn ≤ ce := Nat.le_of_not_lt (fun q => h3 ((dif_lt (by omega) (by omega)).mpr q))
        have el1 : (lN ce) - (lN (prM rA rC ag rn)) = lN (ce - prM rA rC ag rn) := lN_sub h3
        have hl : lv_has ls 5 [(3, .long (lN (ce - prM rA rC ag rn))), (0, .ref (ad 0)), (1, .ref h), (2, .ref q2)] := by rw [← el1]; exact hl
        refine lv_aload_n hx hb d_P_pairWorth_54 rfl (lv_at hl 2 rfl) ?_
        refine lv_aload_n hx hb d_P_pairWorth_55 rfl (lv_at hl 3 rfl) ?_
        refine fv_get (ci := 1) (v := .int (nI nu)) (C := R_A) (T := F_A) (N := 5) hx hb hts (by decide +kernel) hown hK hP 3 0 rfl rfl rfl 0 (by decide) (hts (.fieldLink R_P 136 "PartShelves$Ask" "number" "I") (by decide +kernel)) (fun _ h9 => h9) rfl d_P_pairWorth_56 ?_
        refine lv_aload_n hx hb d_P_pairWorth_59 rfl (lv_at hl 1 rfl) ?_
        refine fv_get (ci := 0) (v := .int (nI td)) (C := R_P) (T := F_P) (N := 13) hx hb hts (by decide +kernel) hown hK hP 0 0 rfl rfl rfl 12 (by decide) (hts (.fieldLink R_P 64 "PartShelves" "currentDay" "I") (by decide +kernel)) (fun _ h9 => h9) rfl d_P_pairWorth_60 ?_
        refine r_calli (W.runV (As := [.int (nI nu), .int (nI td)]) (rest := []) ⟨hx, hb, hml, hown, hts⟩ (c_Q_free l D kC h ki ag se sa dy ho pe nu td (hsa) (hdy) (htd)) (cwV 2 hts g_P_pairWorth_Q_isFreeFor rfl rfl rfl (by decide +kernel) ⟨Nat.le_of_ble_eq_true rfl, Nat.le_of_ble_eq_true rfl⟩) (r_preV (f_recv (ci := 4) (q0 := 0) hK hP 2 rfl rfl rfl) hK (fl_sub hP [2] rfl)) rfl rfl hl.1 rfl (lv_room (Nat.le_of_ble_eq_true rfl)) d_P_pairWorth_63 ⟨Nat.le_of_ble_eq_true rfl, Nat.le_of_ble_eq_true rfl⟩) ?_
        refine lv_if_eq (tgt := 73) hx hb d_P_pairWorth_66 (by decide) (fun h4 => ?_) (fun h4 => ?_)
        · refine lv_ldc2 (v := (-1)) hx hb hown (hts (.constantLong R_P 108 (-1)) (by decide +kernel)) d_P_pairWorth_73 ?_
          exact W.lret (v := (-1)) hx hb hr (fun t ht hW => ⟨_, rfl, by have hC : ¬ pwC ft rA rC rn td ki ag sa dy ho nu pr ce op := fun q => (by first | exact bI_0.mp h4 q.2.2.2 | exact absurd ((dif_lt (by omega) (by omega)).mp h3) (Nat.not_lt.mpr q.2.2.1)); simp only [pwO]; rw [if_neg hC]; rfl, ht⟩) t_nil d_P_pairWorth_76
        · refine lv_lload_n hx hb d_P_pairWorth_69 rfl (lv_at hl 0 rfl) ?_
          refine lv_goto (tgt := 76) hx hb d_P_pairWorth_70 (by decide) ?_
          exact W.lret (v := lN (ce - prM rA rC ag rn)) hx hb hr (fun t ht hW => ⟨_, rfl, by have hC : pwC ft rA rC rn td ki ag sa dy ho nu pr ce op := ⟨h1, h2, h3, bI_n0.mp h4⟩; simp only [pwO]; rw [if_pos hC]; rfl, ht⟩) t_nil d_P_pairWorth_76
    · refine lv_ldc2 (v := (-1)) hx hb hown (hts (.constantLong R_P 108 (-1)) (by decide +kernel)) d_P_pairWorth_27 ?_
      exact W.lret (v := (-1)) hx hb hr (fun t ht hW => ⟨_, rfl, by have hC : ¬ pwC ft rA rC rn td ki ag sa dy ho nu pr ce op := fun q => (by first | exact q.2.1 h2 | exact q.1 h1); simp only [pwO]; rw [if_neg hC]; rfl, ht⟩) t_nil d_P_pairWorth_30

abbrev b_P_rankOf : ByteArray := prog_1_method_37_code
def y_P_rankOf : MethodName := ⟨"PartShelves", "rankOf", "(LPartShelves$Ask;)I"⟩
theorem d_P_rankOf_0 : decode b_P_rankOf 0 = .ok (.iconst 0, 1) := by decide +kernel
theorem d_P_rankOf_1 : decode b_P_rankOf 1 = .ok (.istore_n 2, 1) := by decide +kernel
theorem d_P_rankOf_2 : decode b_P_rankOf 2 = .ok (.iconst 0, 1) := by decide +kernel
theorem d_P_rankOf_3 : decode b_P_rankOf 3 = .ok (.istore_n 3, 1) := by decide +kernel
theorem d_P_rankOf_4 : decode b_P_rankOf 4 = .ok (.iload_n 3, 1) := by decide +kernel
theorem d_P_rankOf_5 : decode b_P_rankOf 5 = .ok (.aload_n 0, 1) := by decide +kernel
theorem d_P_rankOf_6 : decode b_P_rankOf 6 = .ok (.getfield 27, 3) := by decide +kernel
theorem d_P_rankOf_9 : decode b_P_rankOf 9 = .ok (.invokevirtual 89, 3) := by decide +kernel
theorem d_P_rankOf_12 : decode b_P_rankOf 12 = .ok (.if_icmp .ge 30, 3) := by decide +kernel
theorem d_P_rankOf_15 : decode b_P_rankOf 15 = .ok (.aload_n 0, 1) := by decide +kernel
theorem d_P_rankOf_16 : decode b_P_rankOf 16 = .ok (.getfield 27, 3) := by decide +kernel
theorem d_P_rankOf_19 : decode b_P_rankOf 19 = .ok (.iload_n 3, 1) := by decide +kernel
theorem d_P_rankOf_20 : decode b_P_rankOf 20 = .ok (.invokevirtual 146, 3) := by decide +kernel
theorem d_P_rankOf_23 : decode b_P_rankOf 23 = .ok (.checkcast 123, 3) := by decide +kernel
theorem d_P_rankOf_26 : decode b_P_rankOf 26 = .ok (.aload_n 1, 1) := by decide +kernel
theorem d_P_rankOf_27 : decode b_P_rankOf 27 = .ok (.invokevirtual 245, 3) := by decide +kernel
theorem d_P_rankOf_30 : decode b_P_rankOf 30 = .ok (.ifCond .eq 6, 3) := by decide +kernel
theorem d_P_rankOf_33 : decode b_P_rankOf 33 = .ok (.iinc 2 1, 3) := by decide +kernel
theorem d_P_rankOf_36 : decode b_P_rankOf 36 = .ok (.iinc 3 1, 3) := by decide +kernel
theorem d_P_rankOf_39 : decode b_P_rankOf 39 = .ok (.goto (-35), 3) := by decide +kernel
theorem d_P_rankOf_42 : decode b_P_rankOf 42 = .ok (.iload_n 2, 1) := by decide +kernel
theorem d_P_rankOf_43 : decode b_P_rankOf 43 = .ok (.ireturn, 1) := by decide +kernel
def w_P_rankOf : List Cond := .code y_P_rankOf b_P_rankOf 4 (some .int) :: ([.fieldLink "PartShelves" 27 "PartShelves" "asks" "Ljava/util/ArrayList;", .methodLink "PartShelves" 89 ⟨"java/util/ArrayList", "size", "()I"⟩, .instanceMethod ⟨"java/util/ArrayList", "size", "()I"⟩, .selects "java/util/ArrayList" ⟨"java/util/ArrayList", "size", "()I"⟩ ⟨"java/util/ArrayList", "size", "()I"⟩, .initialized "java/util/ArrayList", .code ⟨"java/util/ArrayList", "size", "()I"⟩ prog_18_method_8_code 1 (some .int), .fieldLink "java/util/ArrayList" 48 "java/util/ArrayList" "size" "I", .sameField "java/util/ArrayList" "java/util/AbstractList" "modCount" "I", .methodLink "PartShelves" 146 ⟨"java/util/ArrayList", "get", "(I)Ljava/lang/Object;"⟩, .instanceMethod ⟨"java/util/ArrayList", "get", "(I)Ljava/lang/Object;"⟩, .selects "java/util/ArrayList" ⟨"java/util/ArrayList", "get", "(I)Ljava/lang/Object;"⟩ ⟨"java/util/ArrayList", "get", "(I)Ljava/lang/Object;"⟩, .code ⟨"java/util/ArrayList", "get", "(I)Ljava/lang/Object;"⟩ prog_18_method_20_code 2 (some (.object "java/lang/Object")), .methodLink "java/util/ArrayList" 118 ⟨"java/util/Objects", "checkIndex", "(II)I"⟩, .static ⟨"java/util/Objects", "checkIndex", "(II)I"⟩, .initialized "java/util/Objects", .code ⟨"java/util/Objects", "checkIndex", "(II)I"⟩ prog_22_method_17_code 2 (some .int), .methodLink "java/util/Objects" 105 ⟨"jdk/internal/util/Preconditions", "checkIndex", "(IILjava/util/function/BiFunction;)I"⟩, .static ⟨"jdk/internal/util/Preconditions", "checkIndex", "(IILjava/util/function/BiFunction;)I"⟩, .initialized "jdk/internal/util/Preconditions", .code ⟨"jdk/internal/util/Preconditions", "checkIndex", "(IILjava/util/function/BiFunction;)I"⟩ prog_26_method_11_code 3 (some .int), .methodLink "java/util/ArrayList" 123 ⟨"java/util/ArrayList", "elementData", "(I)Ljava/lang/Object;"⟩, .instanceMethod ⟨"java/util/ArrayList", "elementData", "(I)Ljava/lang/Object;"⟩, .selects "java/util/ArrayList" ⟨"java/util/ArrayList", "elementData", "(I)Ljava/lang/Object;"⟩ ⟨"java/util/ArrayList", "elementData", "(I)Ljava/lang/Object;"⟩, .code ⟨"java/util/ArrayList", "elementData", "(I)Ljava/lang/Object;"⟩ prog_18_method_18_code 2 (some (.object "java/lang/Object")), .fieldLink "java/util/ArrayList" 9 "java/util/ArrayList" "elementData" "[Ljava/lang/Object;", .classLink "PartShelves" 123 "PartShelves$Ask", .methodLink "PartShelves" 245 ⟨"PartShelves$Ask", "standsBefore", "(LPartShelves$Ask;)Z"⟩, .instanceMethod ⟨"PartShelves$Ask", "standsBefore", "(LPartShelves$Ask;)Z"⟩, .selects "PartShelves$Ask" ⟨"PartShelves$Ask", "standsBefore", "(LPartShelves$Ask;)Z"⟩ ⟨"PartShelves$Ask", "standsBefore", "(LPartShelves$Ask;)Z"⟩, .initialized "PartShelves$Ask", .code ⟨"PartShelves$Ask", "standsBefore", "(LPartShelves$Ask;)Z"⟩ prog_2_method_2_code 2 (some .boolean), .fieldLink "PartShelves$Ask" 24 "PartShelves$Ask" "minute" "J", .fieldLink "PartShelves$Ask" 13 "PartShelves$Ask" "number" "I"] ++ u_ws R_P F_P 13 ++ u_ws R_L F_L 3 ++ u_ws R_A F_A 5)
set_option maxRecDepth 20000 in
theorem g_P_rankOf_L_size : GoodIn w_P_rankOf (wsV R_P 89 R_L y_L_size w_L_size) := goodIn_p _ [6] rfl (by decide +kernel)
set_option maxRecDepth 20000 in
theorem g_P_rankOf_L_get : GoodIn w_P_rankOf (wsV R_P 146 R_L y_L_get w_L_get) := goodIn_p _ [12, 16, 20, 24] rfl (by decide +kernel)
set_option maxRecDepth 20000 in
theorem g_P_rankOf_A_standsBefore : GoodIn w_P_rankOf (wsV R_P 245 R_A y_A_standsBefore w_A_standsBefore) := goodIn_p _ [31] rfl (by decide +kernel)
set_option maxHeartbeats 4000000 in
set_option maxRecDepth 100000 in
theorem c_P_rank (l : Launch) (D : va_G) (kC : Nat → ClassId) (ad : Nat → Nat) (qR : Nat → Nat) (lp : Nat) (la : Nat) (lj : Nat) (qM : Nat → Nat) (qN : Nat → Nat) (ft : Nat → Int32) (wr : Nat → Nat) (tl : Nat → Int32) (tn : Nat) (bo : Nat → Int32) (lD : Nat → Nat) (td : Nat) (eD : Nat) (mda : Int32) (xa : Nat) (an : Nat) (aa : Nat → Nat) (anu : Nat → Nat) (pd : Nat → Nat) (cN : Nat → Nat) (mN : Nat → Nat) (aop : Nat → Int32) (b : Nat) (h8 : an ≤ 8) (hb8 : b < an) (hmN : ∀ j, mN j ≤ 1000000000) (hnu : ∀ j, j < an → anu j < 8) : Met l y_P_rankOf w_P_rankOf ({ frames := 3, cells := 0, slots := 0, locals := 65 } : Room) (gPrz cls D (tyL kC) [.ref (ad 0), .ref (aa b)] (fl [(wP kC ad qR lp la lj qM qN ft wr tl tn bo lD td), (wLq kC eD la mda xa an aa), (pA aa anu pd cN mN aop an)])) (vp_Si (fun r => r = nI (rkC anu mN b an))) 0 0 (fun _ => False) := by
  refine Met.ofW (cc := b_P_rankOf) (maxL := 4) (ret := (some .int)) (by decide) rfl ?_
  intro p e s m args below meth c s₁ B hml hv
  obtain ⟨rfl, hP, hK, hzw⟩ := hv
  have hx := B.exec
  have hb := B.bytes
  have hr := B.returns
  have hts := atoms_spec (ws := w_P_rankOf) B.pre
  have hown : s.vm.findClass R_P = some m.cls := findClass_of_methodNamed B.named
  have hlocks := B.notSynchronized
  have hl := lv_entry ([.ref (ad 0), .ref (aa b)]) (n := 4) (Nat.le_of_ble_eq_true rfl)
  rw [lg_entry_eq]
  generalize (lg_sl ([.ref (ad 0), .ref (aa b)]) ++ List.replicate (4 - (lg_sl ([.ref (ad 0), .ref (aa b)])).length) Slot.unset).toArray = ls at hl ⊢
  have hl : lv_has ls 4 [(0, .ref (ad 0)), (1, .ref (aa b))] := hl
  refine lv_iconst (v := nI 0) hx hb d_P_rankOf_0 (by decide) ?_
  refine lv_istore_n (lv' := [(2, .int (nI 0)), (0, .ref (ad 0)), (1, .ref (aa b))]) hx hb d_P_rankOf_1 rfl hl (by decide) rfl (fun ls hl => ?_)
  refine lv_iconst (v := nI 0) hx hb d_P_rankOf_2 (by decide) ?_
  refine lv_istore_n (lv' := [(3, .int (nI 0)), (2, .int (nI 0)), (0, .ref (ad 0)), (1, .ref (aa b))]) hx hb d_P_rankOf_3 rfl hl (by decide) rfl (fun ls hl => ?_)
  have L4 : ∀ (n4 : Nat) (k : Nat), an - k < n4 → k ≤ an → ∀ (ls : Array Slot), lv_has ls 4 [(0, .ref (ad 0)), (1, .ref (aa b)), (2, .int (nI (rkC anu mN b k))), (3, .int (nI k))] → W p l e (headSpec w_P_rankOf ({ frames := 3, cells := 0, slots := 0, locals := 65 } : Room)).room s m ([.ref (ad 0), .ref (aa b)] : List Value).toArray below meth c s.heap [] 0 0 (MQ below (vp_Si (fun r => r = nI (rkC anu mN b an))) ([.ref (ad 0), .ref (aa b)] : List Value).toArray s 0 0 (fun _ => False)) (F0 m 4 ls []) := by
    intro n4
    induction n4 with
    | zero =>
      intro k hm
      exact absurd hm (Nat.not_lt_zero _)
    | succ n4 ih4 =>
      intro k hm hkn ls hl
      refine lv_iload_n hx hb d_P_rankOf_4 rfl (lv_at hl 3 rfl) ?_
      refine lv_aload_n hx hb d_P_rankOf_5 rfl (lv_at hl 0 rfl) ?_
      refine fv_get (ci := 0) (v := .ref la) (C := R_P) (T := F_P) (N := 13) hx hb hts (by decide +kernel) hown hK hP 0 0 rfl rfl rfl 3 (by decide) (hts (.fieldLink R_P 27 "PartShelves" "asks" "Ljava/util/ArrayList;") (by decide +kernel)) (fun _ h9 => h9) rfl d_P_rankOf_6 ?_
      refine r_calli (W.runV (As := []) (rest := [.int (nI k)]) ⟨hx, hb, hml, hown, hts⟩ (c_Lq_size l D kC eD la mda xa an aa) (cwV 0 hts g_P_rankOf_L_size rfl rfl rfl (by decide +kernel) ⟨Nat.le_of_ble_eq_true rfl, Nat.le_of_ble_eq_true rfl⟩) (r_preV (q_recv hK hP 1 rfl) hK (fl_sub hP [1] rfl)) rfl rfl hl.1 rfl (lv_room (Nat.le_of_ble_eq_true rfl)) d_P_rankOf_9 ⟨Nat.le_of_ble_eq_true rfl, Nat.le_of_ble_eq_true rfl⟩) ?_
      refine nv_icmp_ge (tgt := 42) hx hb d_P_rankOf_12 (by decide) (by omega) (by omega) (fun hk => ?_) (fun hk => ?_)
      · obtain rfl : an = k := by omega
        refine lv_iload_n hx hb d_P_rankOf_42 rfl (lv_at hl 2 rfl) ?_
        exact W.iret (v := nI (rkC anu mN b an)) hx hb hr (fun t ht hW => ⟨_, rfl, rfl, ht⟩) t_nil d_P_rankOf_43
      · refine lv_aload_n hx hb d_P_rankOf_15 rfl (lv_at hl 0 rfl) ?_
        refine fv_get (ci := 0) (v := .ref la) (C := R_P) (T := F_P) (N := 13) hx hb hts (by decide +kernel) hown hK hP 0 0 rfl rfl rfl 3 (by decide) (hts (.fieldLink R_P 27 "PartShelves" "asks" "Ljava/util/ArrayList;") (by decide +kernel)) (fun _ h9 => h9) rfl d_P_rankOf_16 ?_
        refine lv_iload_n hx hb d_P_rankOf_19 rfl (lv_at hl 3 rfl) ?_
        refine r_callq (W.runV (As := [.int (nI k)]) (rest := []) ⟨hx, hb, hml, hown, hts⟩ (c_Lq_get l D kC eD la mda xa an aa k (hk) (by omega)) (cwV 1 hts g_P_rankOf_L_get rfl rfl rfl (by decide +kernel) ⟨Nat.le_of_ble_eq_true rfl, Nat.le_of_ble_eq_true rfl⟩) (r_preV (q_recv hK hP 1 rfl) hK (fl_sub hP [1] rfl)) rfl rfl hl.1 rfl (lv_room (Nat.le_of_ble_eq_true rfl)) d_P_rankOf_20 ⟨Nat.le_of_ble_eq_true rfl, Nat.le_of_ble_eq_true rfl⟩) ?_
        refine W.eq (g2 := F0 m 23 ls [.ref (aa k)]) rfl ?_
        have hPez1 := hP
        have ez1 : fl [(wP kC ad qR lp la lj qM qN ft wr tl tn bo lD td), (wLq kC eD la mda xa an aa), (pA aa anu pd cN mN aop an)] = fl [(wP kC ad qR lp la lj qM qN ft wr tl tn bo lD td), (wLq kC eD la mda xa an aa), (pA aa anu pd cN mN aop k), (wA (aa k) (anu k) (pd k) (cN k) (mN k) (aop k)), (pAr aa anu pd cN mN aop an k)] := zm [(wP kC ad qR lp la lj qM qN ft wr tl tn bo lD td), (wLq kC eD la mda xa an aa)] [] (g := fun i => (wA (aa i) (anu i) (pd i) (cN i) (mN i) (aop i))) (hk)
        have hP : va_P D cls (fl [(wP kC ad qR lp la lj qM qN ft wr tl tn bo lD td), (wLq kC eD la mda xa an aa), (pA aa anu pd cN mN aop k), (wA (aa k) (anu k) (pd k) (cN k) (mN k) (aop k)), (pAr aa anu pd cN mN aop an k)]) s.heap := by rw [← ez1]; exact hP
        refine va_castY (C := R_A) hx hb hown (hts (.classLink R_P 123 "PartShelves$Ask") (by decide +kernel)) (hzw.1 _ (by decide +kernel)) (f_recv (ci := 1) (q0 := 0) hK hP 3 rfl rfl rfl) d_P_rankOf_23 ?_
        refine lv_aload_n hx hb d_P_rankOf_26 rfl (lv_at hl 1 rfl) ?_
        refine r_calli (W.runV (As := [.ref (aa b)]) (rest := []) ⟨hx, hb, hml, hown, hts⟩ (c_A_before l D kC (aa k) (anu k) (pd k) (cN k) (mN k) (aop k) (aa b) (anu b) (pd b) (cN b) (mN b) (aop b) (by have := hmN k; omega) (by have := hmN b; omega) (hnu k hk) (hnu b hb8)) (cwV 1 hts g_P_rankOf_A_standsBefore rfl rfl rfl (by decide +kernel) ⟨Nat.le_of_ble_eq_true rfl, Nat.le_of_ble_eq_true rfl⟩) (r_preV (f_recv (ci := 1) (q0 := 0) hK hP 3 rfl rfl rfl) hK (pw2 (g := fun i => (wA (aa i) (anu i) (pd i) (cN i) (mN i) (aop i))) (fl_P hPez1 2 rfl) hk hb8)) rfl rfl hl.1 rfl (lv_room (Nat.le_of_ble_eq_true rfl)) d_P_rankOf_27 ⟨Nat.le_of_ble_eq_true rfl, Nat.le_of_ble_eq_true rfl⟩) ?_
        have hP : va_P D cls (fl [(wP kC ad qR lp la lj qM qN ft wr tl tn bo lD td), (wLq kC eD la mda xa an aa), (pA aa anu pd cN mN aop an)]) s.heap := hPez1
        refine lv_if_eq (tgt := 36) hx hb d_P_rankOf_30 (by decide) (fun hc => ?_) (fun hc => ?_)
        · have el2 : nI (rkC anu mN b k) = nI (rkC anu mN b (k + 1)) := congrArg nI (if_neg (bI_0.mp hc)).symm
          have hl : lv_has ls 4 [(0, .ref (ad 0)), (1, .ref (aa b)), (2, .int (nI (rkC anu mN b (k + 1)))), (3, .int (nI k))] := by rw [← el2]; exact hl
          refine lv_iinc (v := nI (k + 1)) (lv' := [(3, .int (nI (k + 1))), (0, .ref (ad 0)), (1, .ref (aa b)), (2, .int (nI (rkC anu mN b (k + 1))))]) hx hb d_P_rankOf_36 hl (k := 3) rfl (nI_1 k) (by decide) rfl (fun ls hl => ?_)
          refine lv_goto (tgt := 4) hx hb d_P_rankOf_39 (by decide) ?_
          exact ih4 (k + 1) (by omega) (hk) ls (lv_sub hl [1, 2, 3, 0] rfl)
        · refine lv_iinc (v := nI (rkC anu mN b k + 1)) (lv' := [(2, .int (nI (rkC anu mN b k + 1))), (0, .ref (ad 0)), (1, .ref (aa b)), (3, .int (nI k))]) hx hb d_P_rankOf_33 hl (k := 2) rfl (nI_1 (rkC anu mN b k)) (by decide) rfl (fun ls hl => ?_)
          have el3 : nI (rkC anu mN b k + 1) = nI (rkC anu mN b (k + 1)) := congrArg nI (if_pos (bI_n0.mp hc)).symm
          have hl : lv_has ls 4 [(2, .int (nI (rkC anu mN b (k + 1)))), (0, .ref (ad 0)), (1, .ref (aa b)), (3, .int (nI k))] := by rw [← el3]; exact hl
          refine lv_iinc (v := nI (k + 1)) (lv' := [(3, .int (nI (k + 1))), (2, .int (nI (rkC anu mN b (k + 1)))), (0, .ref (ad 0)), (1, .ref (aa b))]) hx hb d_P_rankOf_36 hl (k := 3) rfl (nI_1 k) (by decide) rfl (fun ls hl => ?_)
          refine lv_goto (tgt := 4) hx hb d_P_rankOf_39 (by decide) ?_
          exact ih4 (k + 1) (by omega) (hk) ls (lv_sub hl [2, 3, 1, 0] rfl)
  exact L4 _ 0 (Nat.lt_succ_self _) (Nat.zero_le _) ls (lv_sub hl [2, 3, 1, 0] rfl)

