set_option maxRecDepth 20000 in
theorem li_P : ∀ w ∈ u_ws R_P F_P 13, w ∈ lw_tbl := by decide +kernel
set_option maxRecDepth 20000 in
theorem li_A : ∀ w ∈ u_ws R_A F_A 5, w ∈ lw_tbl := by decide +kernel
set_option maxRecDepth 20000 in
theorem li_J : ∀ w ∈ u_ws R_J F_J 1, w ∈ lw_tbl := by decide +kernel
set_option maxRecDepth 20000 in
theorem li_M : ∀ w ∈ u_ws R_M F_M 13, w ∈ lw_tbl := by decide +kernel
set_option maxRecDepth 20000 in
theorem li_Q : ∀ w ∈ u_ws R_Q F_Q 7, w ∈ lw_tbl := by decide +kernel
set_option maxRecDepth 20000 in
theorem li_R : ∀ w ∈ u_ws R_R F_R 3, w ∈ lw_tbl := by decide +kernel
set_option maxRecDepth 20000 in
theorem li_N : ∀ w ∈ u_ws R_N F_N 4, w ∈ lw_tbl := by decide +kernel
set_option maxRecDepth 20000 in
theorem li_O : ∀ w ∈ u_ws R_O F_O 36, w ∈ lw_tbl := by decide +kernel
set_option maxRecDepth 20000 in
theorem li_L : ∀ w ∈ u_ws R_L F_L 3, w ∈ lw_tbl := by decide +kernel
theorem la_prim {args : Array Value} {s : State} {ty : FieldType} (hp : ∀ cA : ClassId, s.vm.findClass ("[" ++ ty.toString) = some cA → va_RA s cA ty) (h : (Cond.arrayClass ty).before args s = true) : ∃ cA : ClassId, ArrOfT s cA ty ∧ va_RA s cA ty := by
  obtain ⟨cA, kA, comp, hfind, hk, hkind⟩ := Cond.arrayClass_spec h
  exact ⟨cA, fun n z => ⟨fun k h => (by cases h), kA, hk, comp, hkind⟩, hp cA hfind⟩
theorem la_obj {args : Array Value} {s : State} {C : String} (h : (Cond.arrayOver (.object C)).before args s = true) : ∃ cA : ClassId, ArrOfT s cA (.object C) ∧ va_RA s cA (.object C) := by
  obtain ⟨comp, cA, kA, h1, -, h3, h4, h5⟩ := Cond.arrayOver_spec h
  exact ⟨cA, fun n z => ⟨fun k h => (by cases h), kA, h3, comp, h4⟩, kA, comp, h3, h4, h1, h5⟩
theorem la_arr {args : Array Value} {s : State} {t : FieldType} (h : (Cond.arrayOver (.array t)).before args s = true) : ∃ cA : ClassId, ArrOfT s cA (.array t) ∧ va_RA s cA (.array t) := by
  obtain ⟨comp, cA, kA, h1, -, h3, h4, h5⟩ := arrayOverA_spec h
  exact ⟨cA, fun n z => ⟨fun k h => (by cases h), kA, h3, comp, h4⟩, h5⟩
set_option maxRecDepth 20000 in
theorem zL_in : ∀ w ∈ zL, w ∈ lw_tbl := by decide +kernel
set_option maxRecDepth 20000 in
theorem g_law_P_i : GoodIn lw_tbl (w_P_i) := goodIn_p _ [50, 53, 58, 76, 79, 82, 103, 151] rfl (by decide +kernel)
set_option maxRecDepth 20000 in
theorem g_law_O_i : GoodIn lw_tbl (w_O_i) := goodIn_p _ [627, 53] rfl (by decide +kernel)
set_option maxHeartbeats 4000000 in
set_option maxRecDepth 100000 in
/-- the law from its entry -/
theorem whole_start {p : Program} {e : Env} {s : State} {m : MethodId} {below : List Frame} {meth : Method} {c : Code} (l : Launch) {b L : Nat} {xs : Nat → Int32} (hL : L ≤ 3072) (C0 : lw_At p s m meth c b L xs) : W p l e room_1 s m #[Value.ref b] below meth c s.heap [] 0 0 (lw_Z below #[Value.ref b] s) (entryFrame m ([Value.ref b] : List Value).toArray 4) := by
  obtain ⟨hx, hb, hr, hml, hown, hts, hX, hbl, hlocks, hgv⟩ := id C0
  have hA : ∀ q : Nat, s.heap.size ≤ q → (fun q : Nat => s.heap.size ≤ q) q := fun _ h => h
  have hbA : ¬ (fun q : Nat => s.heap.size ≤ q) b := Nat.not_le.mpr hbl
  have hAn : ∀ a : Nat, a < s.heap.size → ¬ (fun q : Nat => s.heap.size ≤ q) a := fun a h => Nat.not_le.mpr h
  obtain ⟨c0, i0, hKn0⟩ := u_known (C := R_P) (T := F_P) (N := 13) (n := 13) hts li_P (hts (.instantiable R_P 13) (by decide +kernel))
  obtain ⟨c1, i1, hKn1⟩ := u_known (C := R_A) (T := F_A) (N := 5) (n := 5) hts li_A (hts (.instantiable R_A 5) (by decide +kernel))
  obtain ⟨c2, i2, hKn2⟩ := u_known (C := R_J) (T := F_J) (N := 1) (n := 1) hts li_J (hts (.instantiable R_J 1) (by decide +kernel))
  obtain ⟨c3, i3, hKn3⟩ := u_known (C := R_M) (T := F_M) (N := 13) (n := 13) hts li_M (hts (.instantiable R_M 13) (by decide +kernel))
  obtain ⟨c4, i4, hKn4⟩ := u_known (C := R_Q) (T := F_Q) (N := 7) (n := 7) hts li_Q (hts (.instantiable R_Q 7) (by decide +kernel))
  obtain ⟨c5, i5, hKn5⟩ := u_known (C := R_R) (T := F_R) (N := 3) (n := 3) hts li_R (hts (.instantiable R_R 3) (by decide +kernel))
  obtain ⟨c6, i6, hKn6⟩ := u_known (C := R_N) (T := F_N) (N := 4) (n := 4) hts li_N (hts (.instantiable R_N 4) (by decide +kernel))
  obtain ⟨c7, i7, hKn7⟩ := u_known (C := R_O) (T := F_O) (N := 36) (n := 36) hts li_O (hts (.instantiable R_O 36) (by decide +kernel))
  obtain ⟨c8, i8, hKn8⟩ := u_known (C := R_L) (T := F_L) (N := 3) (n := 3) hts li_L (hts (.instantiable R_L 3) (by decide +kernel))
  obtain ⟨D, hKc⟩ : ∃ D : va_G, ∀ (k : Nat) (q : vw_C), cls[k]? = some q → u_Kn s q.1 q.2.1 q.2.2 (D.1 k) (D.2 k) := by
    refine ⟨(fun k => if k = 0 then c0 else if k = 1 then c1 else if k = 2 then c2 else if k = 3 then c3 else if k = 4 then c4 else if k = 5 then c5 else if k = 6 then c6 else if k = 7 then c7 else c8, fun k => if k = 0 then i0 else if k = 1 then i1 else if k = 2 then i2 else if k = 3 then i3 else if k = 4 then i4 else if k = 5 then i5 else if k = 6 then i6 else if k = 7 then i7 else i8), ?_⟩
    intro k q hq
    match k, hq with
    | 0, hq => cases hq; exact hKn0
    | 1, hq => cases hq; exact hKn1
    | 2, hq => cases hq; exact hKn2
    | 3, hq => cases hq; exact hKn3
    | 4, hq => cases hq; exact hKn4
    | 5, hq => cases hq; exact hKn5
    | 6, hq => cases hq; exact hKn6
    | 7, hq => cases hq; exact hKn7
    | 8, hq => cases hq; exact hKn8
    | k + 9, hq => simp [cls] at hq
  obtain ⟨k0, a0, r0⟩ := la_prim (ty := .int) (fun _ h => h) (hts (.arrayClass .int) (by decide +kernel))
  obtain ⟨k1, a1, r1⟩ := la_prim (ty := .long) (fun _ h => h) (hts (.arrayClass .long) (by decide +kernel))
  obtain ⟨k2, a2, r2⟩ := la_prim (ty := .boolean) (fun _ h => h) (hts (.arrayClass .boolean) (by decide +kernel))
  obtain ⟨k3, a3, r3⟩ := la_obj (C := "java/lang/Object") (hts (.arrayOver (.object "java/lang/Object")) (by decide +kernel))
  obtain ⟨k4, a4, r4⟩ := la_arr (t := .long) (hts (.arrayOver (.array .long)) (by decide +kernel))
  obtain ⟨kC, hkC⟩ : ∃ kC : Nat → ClassId, kC = fun k => if k = 0 then k0 else if k = 1 then k1 else if k = 2 then k2 else if k = 3 then k3 else k4 := ⟨_, rfl⟩
  have hK : va_K D cls (tyL kC) s := by
    refine ⟨hKc, fun k q hq => ?_⟩
    subst hkC
    match k, hq with
    | 0, hq => cases hq; exact ⟨a0, r0⟩
    | 1, hq => cases hq; exact ⟨a1, r1⟩
    | 2, hq => cases hq; exact ⟨a2, r2⟩
    | 3, hq => cases hq; exact ⟨a3, r3⟩
    | 4, hq => cases hq; exact ⟨a4, r4⟩
    | k + 5, hq => simp [tyL] at hq
  clear hkC
  have hg := flat_of_before _ hgv
  obtain ⟨eD, heD, hT0⟩ := va_Tof (A := fun q : Nat => s.heap.size ≤ q) (N := 0) (f := fun _ => .null) (tm := .static "java/util/ArrayList" "DEFAULTCAPACITY_EMPTY_ELEMENTDATA" "[Ljava/lang/Object;") (ty := .object "java/lang/Object") (by decide) (hg _ (by decide +kernel)) (va_eqt (z := 0) (hg _ (by decide +kernel))) (fun j hj => absurd hj (Nat.not_lt_zero j)) hAn
  have hZ0 : va_Z "java/util/ArrayList" "DEFAULTCAPACITY_EMPTY_ELEMENTDATA" "[Ljava/lang/Object;" (.ref eD) (fun q : Nat => s.heap.size ≤ q) s s.heap := va_Zref (hts (.laysStatic "java/util/ArrayList" "DEFAULTCAPACITY_EMPTY_ELEMENTDATA" "[Ljava/lang/Object;") (by decide +kernel)) (hts (.initialized "java/util/ArrayList") (by decide +kernel)) heD hAn
  have hz : lzE eD (fun q : Nat => s.heap.size ≤ q) s s.heap := ⟨hZ0, hT0, fun w hw => va_Nw.of (zL_tab w hw) (hts w (zL_in w hw)), va_AO.of (hts (.arrayOver (.object "java/lang/Object")) (by decide +kernel)), over_moved (Vm.Alike.refl s.vm) (hts (.arrayOver (.array .long)) (by decide +kernel))⟩
  have hS : va_S (fun q : Nat => s.heap.size ≤ q) s.heap s.heap [] := va_S.rf
  have hP : va_P D cls (fl []) s.heap := fun k q h => by simp [fl] at h
  have hD : va_D (fun q : Nat => s.heap.size ≤ q) (fl []) := ⟨fun i j p q h => by simp [fl] at h, fun k q h => by simp [fl] at h⟩
  have hl := lv_entry ([.ref b]) (n := 4) (Nat.le_of_ble_eq_true rfl)
  rw [lg_entry_eq]
  generalize (lg_sl ([.ref b]) ++ List.replicate (4 - (lg_sl ([.ref b])).length) Slot.unset).toArray = ls at hl ⊢
  have hl : lv_has ls 4 [(0, .ref b)] := hl
  refine fv_new (C := R_P) (T := F_P) (N := 13) (ci := 0) (fs := [.null, .null, .null, .null, .null, .null, .null, .null, .null, .int (nI 0), .null, .null, .int (nI 0)]) hx hb hts li_P t_P t_P_ok hown (hts (.classLink R_law 7 R_P) (by decide +kernel)) (hts (.instantiable R_P 13) (by decide +kernel)) (hts (.initialized R_P) (by decide +kernel)) hK hP hD hS hA rfl (fun j hj => match j, hj with | 0, _ => rfl | 1, _ => rfl | 2, _ => rfl | 3, _ => rfl | 4, _ => rfl | 5, _ => rfl | 6, _ => rfl | 7, _ => rfl | 8, _ => rfl | 9, _ => rfl | 10, _ => rfl | 11, _ => rfl | 12, _ => rfl | (n9 + 13), h9 => absurd h9 (by omega)) (Nat.le_of_ble_eq_true rfl) (Nat.le_of_ble_eq_true rfl) d_law_0 (fun q0 H hP hD hS => ?_)
  refine lv_dup hx hb d_law_3 rfl ?_
  have hPx := fl_P hP 0 rfl
  have hDx := fl_D hD 0 rfl
  refine g_callvSG 0 (va_runI (As := []) (rest := [.ref q0]) ⟨hx, hb, hml, hown, hts⟩ (c_P_i l D kC q0 eD H.size) (cwI 0 hts g_law_P_i rfl rfl rfl (hts (.initialized R_P) (by decide +kernel)) (hts (.methodLink R_law 9 y_P_i) (by decide +kernel)) (hts (.instanceMethod y_P_i) (by decide +kernel)) rfl (by decide +kernel) ⟨Nat.le_of_ble_eq_true rfl, Nat.le_of_ble_eq_true rfl⟩) (z_preS hz hS (fl_free hD hS hA 0 rfl) hK hPx hDx) rfl rfl hl.1 rfl (lv_room (Nat.le_of_ble_eq_true rfl)) d_law_4 ⟨Nat.le_of_ble_eq_true rfl, Nat.le_of_ble_eq_true rfl⟩) hS hA hP hD rfl (fun u H locs hu hP hD hS => ?_)
  refine lv_astore_n (lv' := [(1, .ref q0), (0, .ref b)]) hx hb d_law_7 rfl hl (by decide) rfl (fun ls hl => ?_)
  refine fv_new (C := R_O) (T := F_O) (N := 36) (ci := 7) (fs := [.int (nI 0), .int (nI 0), .null, .null, .null, .int (nI 0), .null, .null, .null, .null, .null, .null, .int (nI 0), .null, .null, .null, .null, .int (nI 0), .null, .null, .int (nI 0), .null, .null, .null, .null, .int (nI 0), .long (lN 0), .null, .int (nI 0), .int (nI 0), .null, .int (nI 0), .long (lN 0), .int (nI 0), .null, .null]) hx hb hts li_O t_O t_O_ok hown (hts (.classLink R_law 10 R_O) (by decide +kernel)) (hts (.instantiable R_O 36) (by decide +kernel)) (hts (.initialized R_O) (by decide +kernel)) hK hP hD hS hA rfl (fun j hj => match j, hj with | 0, _ => rfl | 1, _ => rfl | 2, _ => rfl | 3, _ => rfl | 4, _ => rfl | 5, _ => rfl | 6, _ => rfl | 7, _ => rfl | 8, _ => rfl | 9, _ => rfl | 10, _ => rfl | 11, _ => rfl | 12, _ => rfl | 13, _ => rfl | 14, _ => rfl | 15, _ => rfl | 16, _ => rfl | 17, _ => rfl | 18, _ => rfl | 19, _ => rfl | 20, _ => rfl | 21, _ => rfl | 22, _ => rfl | 23, _ => rfl | 24, _ => rfl | 25, _ => rfl | 26, _ => rfl | 27, _ => rfl | 28, _ => rfl | 29, _ => rfl | 30, _ => rfl | 31, _ => rfl | 32, _ => rfl | 33, _ => rfl | 34, _ => rfl | 35, _ => rfl | (n9 + 36), h9 => absurd h9 (by omega)) (Nat.le_of_ble_eq_true rfl) (Nat.le_of_ble_eq_true rfl) d_law_8 (fun q1 H hP hD hS => ?_)
  refine lv_dup hx hb d_law_11 rfl ?_
  have hPx := fl_P hP 1 rfl
  have hDx := fl_D hD 1 rfl
  refine g_callvSG 1 (va_runI (As := []) (rest := [.ref q1]) ⟨hx, hb, hml, hown, hts⟩ (c_O_i l D kC q1 H.size) (cwI 0 hts g_law_O_i rfl rfl rfl (hts (.initialized R_O) (by decide +kernel)) (hts (.methodLink R_law 12 y_O_i) (by decide +kernel)) (hts (.instanceMethod y_O_i) (by decide +kernel)) rfl (by decide +kernel) ⟨Nat.le_of_ble_eq_true rfl, Nat.le_of_ble_eq_true rfl⟩) (g_preS hK hPx hDx) rfl rfl hl.1 rfl (lv_room (Nat.le_of_ble_eq_true rfl)) d_law_12 ⟨Nat.le_of_ble_eq_true rfl, Nat.le_of_ble_eq_true rfl⟩) hS hA hP hD rfl (fun w H locs hw hP hD hS => ?_)
  refine lv_astore_n (lv' := [(2, .ref q1), (1, .ref q0), (0, .ref b)]) hx hb d_law_15 rfl hl (by decide) rfl (fun ls hl => ?_)
  refine lv_iconst (v := nI 0) hx hb d_law_16 (by decide) ?_
  refine lv_istore_n (lv' := [(3, .int (nI 0)), (2, .ref q1), (1, .ref q0), (0, .ref b)]) hx hb d_law_17 rfl hl (by decide) rfl (fun ls hl => ?_)
  refine W.widen (k := 100) (n := 4000) (Nat.le_of_ble_eq_true rfl) (Nat.le_of_ble_eq_true rfl) ?_
  have hl2 : lv_has ls 4 [(0, .ref b), (1, .ref (u.1 0)), (2, .ref (w 0)), (3, .int (nI (6 * 0)))] := by
    rw [hu, hw]
    exact lv_sub hl [3, 2, 1, 0] rfl
  refine law_loop hL C0 hK hz (L + 1) 0 (by omega) (by omega) _ _ H locs ls (rel_0 u.1 u.2.1 u.2.2.1 u.2.2.2.1 u.2.2.2.2.1 u.2.2.2.2.2.1 u.2.2.2.2.2.2.1 u.2.2.2.2.2.2.2 w) ?_ ?_ hS ?_
  · rw [lawW_cm]; exact hP
  · rw [lawW_cm]; exact hD
  · rw [mkCS_ad, mkMS_ad]; exact hl2
