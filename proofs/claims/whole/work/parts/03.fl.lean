/-! worlds as lists of worlds: a place is (which world, where in it) -/
abbrev fl (L : List va_W) : va_W := L.flatten
theorem fl_mem {D : va_G} {cl : List vw_C} {ws : va_W} {H : Heap} : va_P D cl ws H ↔ ∀ q ∈ ws, va_at D cl q H :=
  ⟨fun h q hq => by obtain ⟨i, hi⟩ := List.getElem?_of_mem hq; exact h i q hi, fun h k q hk => h q (List.mem_of_getElem? hk)⟩
theorem fl_P {D : va_G} {cl : List vw_C} {L : List va_W} {H : Heap} (h : va_P D cl (fl L) H) (k : Nat) {Y : va_W} (hk : L[k]? = some Y) : va_P D cl Y H :=
  fl_mem.mpr fun q hq => fl_mem.mp h q (List.mem_flatten.mpr ⟨Y, List.mem_of_getElem? hk, hq⟩)
theorem fl_sub {D : va_G} {cl : List vw_C} {L L' : List va_W} {H : Heap} (h : va_P D cl (fl L) H) (is : List Nat) (hs : is.filterMap (fun i => L[i]?) = L') : va_P D cl (fl L') H :=
  fl_mem.mpr fun q hq => by
    obtain ⟨Y, h1, h2⟩ := List.mem_flatten.mp hq
    subst hs
    obtain ⟨i, -, hi⟩ := List.mem_filterMap.mp h1
    exact fl_mem.mp (fl_P h i hi) q h2
theorem dD_l {A : Nat → Prop} {X Y : va_W} (h : va_D A (X ++ Y)) : va_D A X := by
  have key : ∀ (i : Nat) (q : Nat × va_E), X[i]? = some q → (X ++ Y)[i]? = some q := fun i q hi => by
    rw [List.getElem?_append_left (List.getElem?_eq_some_iff.mp hi).1]; exact hi
  exact ⟨fun i j p q hi hj => h.1 i j p q (key i p hi) (key j q hj), fun k q hk => h.2 k q (key k q hk)⟩
theorem dD_r {A : Nat → Prop} {X Y : va_W} (h : va_D A (X ++ Y)) : va_D A Y := by
  have key : ∀ (i : Nat) (q : Nat × va_E), Y[i]? = some q → (X ++ Y)[X.length + i]? = some q := fun i q hi => by
    rw [List.getElem?_append_right (Nat.le_add_right _ _), Nat.add_sub_cancel_left]; exact hi
  exact ⟨fun i j p q hi hj hx => by have := h.1 _ _ p q (key i p hi) (key j q hj) hx; omega, fun k q hk => h.2 _ q (key k q hk)⟩
theorem dD_x {A : Nat → Prop} {X Y : va_W} (h : va_D A (X ++ Y)) {p q : Nat × va_E} (hp : p ∈ X) (hq : q ∈ Y) : p.1 ≠ q.1 := by
  obtain ⟨i, hi⟩ := List.getElem?_of_mem hp
  obtain ⟨j, hj⟩ := List.getElem?_of_mem hq
  have hl := (List.getElem?_eq_some_iff.mp hi).1
  intro e
  have h1 : (X ++ Y)[i]? = some p := by rw [List.getElem?_append_left hl]; exact hi
  have h2 : (X ++ Y)[X.length + j]? = some q := by rw [List.getElem?_append_right (Nat.le_add_right _ _), Nat.add_sub_cancel_left]; exact hj
  have := h.1 _ _ _ _ h1 h2 e
  omega
theorem dD_in {A : Nat → Prop} {X : va_W} (h : va_D A X) {q : Nat × va_E} (hq : q ∈ X) : A q.1 := by
  obtain ⟨i, hi⟩ := List.getElem?_of_mem hq
  exact h.2 i q hi
theorem dD_mk {A : Nat → Prop} {X Y : va_W} (hX : va_D A X) (hY : va_D A Y) (hx : ∀ p ∈ X, ∀ q ∈ Y, p.1 ≠ q.1) : va_D A (X ++ Y) :=
  va_D.app hX hY fun _ _ p q h1 h2 => hx p (List.mem_of_getElem? h1) q (List.mem_of_getElem? h2)
/-- behind a call that has a part of the world: the rest stays -/
theorem fr_mid {A : Nat → Prop} {D : va_G} {cl : List vw_C} {X Y Y1 Z : va_W} {H H1 : Heap} (hP : va_P D cl (X ++ (Y ++ Z)) H) (hD : va_D A (X ++ (Y ++ Z)))
    (hk : ∀ q : Nat, q < H.size → ¬ va_A Y H.size q → H1[q]? = H[q]?) (hF : ∀ q, va_A Y H.size q → A q) (hP1 : va_P D cl Y1 H1) (hD1 : va_D (va_A Y H.size) Y1) : va_P D cl (X ++ (Y1 ++ Z)) H1 ∧ va_D A (X ++ (Y1 ++ Z)) := by
  have hYm : ∀ q, va_A Y H.size q → (∃ y ∈ Y, y.1 = q) ∨ H.size ≤ q := fun q h => by
    rcases h with ⟨k, e, h⟩ | h
    · exact Or.inl ⟨_, List.mem_of_getElem? h, rfl⟩
    · exact Or.inr h
  have hDYZ := dD_r hD
  have aX : ∀ x ∈ X, x.1 < H.size ∧ ¬ va_A Y H.size x.1 := fun x hx => by
    have hl := (fl_mem.mp hP x (List.mem_append.mpr (Or.inl hx))).lt
    refine ⟨hl, fun h => ?_⟩
    rcases hYm _ h with ⟨y, hy, e⟩ | h
    · exact dD_x hD hx (List.mem_append.mpr (Or.inl hy)) e.symm
    · omega
  have aZ : ∀ z ∈ Z, z.1 < H.size ∧ ¬ va_A Y H.size z.1 := fun z hz => by
    have hl := (fl_mem.mp hP z (List.mem_append.mpr (Or.inr (List.mem_append.mpr (Or.inr hz))))).lt
    refine ⟨hl, fun h => ?_⟩
    rcases hYm _ h with ⟨y, hy, e⟩ | h
    · exact dD_x hDYZ hy hz e
    · omega
  have hin1 : ∀ y ∈ Y1, va_A Y H.size y.1 := fun y hy => dD_in hD1 hy
  refine ⟨fl_mem.mpr fun q hq => ?_, dD_mk (dD_l hD) (dD_mk (hD1.weaken fun _ _ _ h => hF _ h) (dD_r hDYZ) fun y hy z hz e => (aZ z hz).2 (e ▸ hin1 y hy)) fun x hx q hq e => ?_⟩
  · rcases List.mem_append.mp hq with h | h
    · exact (fl_mem.mp hP q (List.mem_append.mpr (Or.inl h))).kept (hk q.1 (aX q h).1 (aX q h).2)
    · rcases List.mem_append.mp h with h | h
      · exact fl_mem.mp hP1 q h
      · exact (fl_mem.mp hP q (List.mem_append.mpr (Or.inr (List.mem_append.mpr (Or.inr h))))).kept (hk q.1 (aZ q h).1 (aZ q h).2)
  · rcases List.mem_append.mp hq with h | h
    · exact (aX x hx).2 (e ▸ hin1 q h)
    · exact dD_x hD hx (List.mem_append.mpr (Or.inr h)) e
theorem fl_cut {L : List va_W} {k : Nat} {Y : va_W} (hk : L[k]? = some Y) : fl L = fl (L.take k) ++ (Y ++ fl (L.drop (k + 1))) := by
  obtain ⟨hl, he⟩ := List.getElem?_eq_some_iff.mp hk
  have h1 : L = L.take k ++ (Y :: L.drop (k + 1)) := by
    rw [← he, List.getElem_cons_drop, List.take_append_drop]
  have h2 : fl L = fl (L.take k ++ (Y :: L.drop (k + 1))) := congrArg fl h1
  rw [h2]
  show List.flatten _ = _
  rw [List.flatten_append, List.flatten_cons]
theorem fl_cutS {L : List va_W} {k : Nat} {Y : va_W} (Y1 : va_W) (hk : L[k]? = some Y) : fl (L.set k Y1) = fl (L.take k) ++ (Y1 ++ fl (L.drop (k + 1))) := by
  have hl := (List.getElem?_eq_some_iff.mp hk).1
  have h1 : (L.set k Y1)[k]? = some Y1 := List.getElem?_set_self hl
  rw [fl_cut h1, List.take_set, List.drop_set]
  congr 1
  · rw [List.set_eq_of_length_le (by rw [List.length_take]; omega)]
  · rw [if_pos (by omega)]
/-- the k-th world was a call's world -/
theorem fr_k {A : Nat → Prop} {D : va_G} {cl : List vw_C} {L : List va_W} {Y Y1 : va_W} {H H1 : Heap} (hP : va_P D cl (fl L) H) (hD : va_D A (fl L)) (k : Nat) (hL : L[k]? = some Y)
    (hk : ∀ q : Nat, q < H.size → ¬ va_A Y H.size q → H1[q]? = H[q]?) (hF : ∀ q, va_A Y H.size q → A q) (hP1 : va_P D cl Y1 H1) (hD1 : va_D (va_A Y H.size) Y1) : va_P D cl (fl (L.set k Y1)) H1 ∧ va_D A (fl (L.set k Y1)) := by
  rw [fl_cutS Y1 hL]
  rw [fl_cut hL] at hP hD
  exact fr_mid hP hD hk hF hP1 hD1
theorem fl_D {A : Nat → Prop} {L : List va_W} (h : va_D A (fl L)) (k : Nat) {Y : va_W} (hk : L[k]? = some Y) : va_D A Y := by
  rw [fl_cut hk] at h
  exact dD_l (dD_r h)
theorem fl_free {A0 : Nat → Prop} {L : List va_W} {Y : va_W} {H0 H : Heap} {locs : List Loc} (hD : va_D A0 (fl L)) (hS : va_S A0 H0 H locs) (hA : ∀ q, H0.size ≤ q → A0 q) (k : Nat) (hk : L[k]? = some Y) : ∀ q, va_A Y H.size q → A0 q := by
  intro q h
  rcases h with ⟨i, e, h⟩ | h
  · exact (fl_D hD k hk).2 i (q, e) h
  · exact hA q (Nat.le_trans hS.1 h)
theorem fl_freeA {A0 : Nat → Prop} {Y : va_W} {H0 H : Heap} {locs : List Loc} (hD : va_D A0 Y) (hS : va_S A0 H0 H locs) (hA : ∀ q, H0.size ≤ q → A0 q) : ∀ q, va_A Y H.size q → A0 q := by
  intro q h
  rcases h with ⟨i, e, h⟩ | h
  · exact hD.2 i (q, e) h
  · exact hA q (Nat.le_trans hS.1 h)
/-- a cell of a world of the list, and what writing it makes of the list -/
theorem fl_at {L : List va_W} {k q0 : Nat} {Y : va_W} {x : Nat × va_E} (hk : L[k]? = some Y) (hq : Y[q0]? = some x) : ∃ i : Nat, (fl L)[i]? = some x ∧ ∀ y, (fl L).set i y = fl (L.set k (Y.set q0 y)) := by
  have hl := (List.getElem?_eq_some_iff.mp hq).1
  refine ⟨(fl (L.take k)).length + q0, ?_, fun y => ?_⟩
  · rw [fl_cut hk, List.getElem?_append_right (Nat.le_add_right _ _), Nat.add_sub_cancel_left, List.getElem?_append_left hl]
    exact hq
  · rw [fl_cutS _ hk, fl_cut hk, List.set_append_right _ _ (Nat.le_add_right _ _), Nat.add_sub_cancel_left, List.set_append_left _ _ hl]
section FV
variable {p : Program} {l : Launch} {e : Env} {R : Room} {s : State} {m : MethodId} {args : Array Value} {below : List Frame} {meth : Method} {c : Code} {H : Heap} {locs : List Loc} {cells slots : Nat} {Q : State → Prop}
variable {cc : ByteArray} {pc : Nat} {ls : Array Slot} {rest : List Value} {D : va_G} {cl : List vw_C} {A : Nat → Prop} {a : Nat} {tys : List (ClassId × FieldType)} {L : List va_W} {Y : va_W} {H0 : Heap}
theorem fv_get (hx : p.tables.exec = Jvm.exec) (hb : c.code = cc) {own ref C : String} {T : u_T} {N ci index : Nat} {Ts : List Cond} (hts : ∀ w ∈ Ts, w.before args s = true) (hin : ∀ w ∈ u_ws C T N, w ∈ Ts) (hown : s.vm.findClass own = some m.cls) (hK : va_K D cl tys s) (hP : va_P D cl (fl L) H) (kw q0 : Nat) (hL : L[kw]? = some Y) {fs : List Value} (he : Y[q0]? = some (a, .inr (ci, fs))) (hc : cl[ci]? = some (C, T, N)) (k : Nat) (hk : k < N) (hlink : (Cond.fieldLink own index ref (T k).2.1 (T k).2.2.1).before args s = true) (hsame : ∀ x, s.fieldFound? (T k).1 (T k).2.1 (T k).2.2.1 = some x → s.fieldFound? ref (T k).2.1 (T k).2.2.1 = some x) {v : Value} (hv : fs[k]? = some v) (hdg : decode cc pc = .ok (.getfield index, 3)) (kk : W p l e R s m args below meth c H locs cells slots Q (F0 m (pc + 3) ls (v :: rest))) : W p l e R s m args below meth c H locs cells slots Q (F0 m pc ls (.ref a :: rest)) := va_get hx hb hts hin hown hK (fl_P hP kw hL) q0 he hc k hk hlink hsame hv hdg kk
theorem fv_put (hx : p.tables.exec = Jvm.exec) (hb : c.code = cc) {own ref C : String} {T : u_T} {N ci index : Nat} {Ts : List Cond} (hts : ∀ w ∈ Ts, w.before args s = true) (hin : ∀ w ∈ u_ws C T N, w ∈ Ts) (ty0 : Nat → FieldType) (hty : ∀ k, k < N → parseFieldDescriptor (T k).2.2.1 = some (ty0 k)) (hnm : ∀ a, a < N → ∀ b, b < N → a ≠ b → (T a).2.1 ≠ (T b).2.1) (hown : s.vm.findClass own = some m.cls) (hK : va_K D cl tys s) (hP : va_P D cl (fl L) H) (hD : va_D A (fl L)) (hS : va_S A H0 H locs) (kw q0 : Nat) (hL : L[kw]? = some Y) {fs : List Value} (he : Y[q0]? = some (a, .inr (ci, fs))) (hc : cl[ci]? = some (C, T, N)) (k : Nat) (hk : k < N) (hlink : (Cond.fieldLink own index ref (T k).2.1 (T k).2.2.1).before args s = true) (hsame : ∀ x, s.fieldFound? (T k).1 (T k).2.1 (T k).2.2.1 = some x → s.fieldFound? ref (T k).2.1 (T k).2.2.1 = some x) (hfin : (T k).2.2.2 = false) {ty : FieldType} {v : Value} (hd : parseFieldDescriptor (T k).2.2.1 = some ty) (hn : narrow ty v = v) (hfit : fits ty v = true) (hl : k < fs.length) (hdg : decode cc pc = .ok (.putfield index, 3)) (kk : ∀ (H1 : Heap) (locs1 : List Loc), va_P D cl (fl (L.set kw (Y.set q0 (a, .inr (ci, fs.set k v))))) H1 → va_D A (fl (L.set kw (Y.set q0 (a, .inr (ci, fs.set k v))))) → va_S A H0 H1 locs1 → W p l e R s m args below meth c H1 locs1 cells slots Q (F0 m (pc + 3) ls rest)) : W p l e R s m args below meth c H locs cells slots Q (F0 m pc ls (v :: .ref a :: rest)) := by
  obtain ⟨i, h1, h2⟩ := fl_at hL he
  refine va_put hx hb hts hin ty0 hty hnm hown hK hP hD hS i h1 hc k hk hlink hsame hfin hd hn hfit hl hdg fun H1 locs1 h3 h4 h5 => ?_
  rw [h2] at h3 h4
  exact kk H1 locs1 h3 h4 h5
theorem fv_putF (hx : p.tables.exec = Jvm.exec) (hb : c.code = cc) {own ref C : String} {T : u_T} {N ci index : Nat} {Ts : List Cond} (hts : ∀ w ∈ Ts, w.before args s = true) (hin : ∀ w ∈ u_ws C T N, w ∈ Ts) (ty0 : Nat → FieldType) (hty : ∀ k, k < N → parseFieldDescriptor (T k).2.2.1 = some (ty0 k)) (hnm : ∀ a, a < N → ∀ b, b < N → a ≠ b → (T a).2.1 ≠ (T b).2.1) (hown : s.vm.findClass own = some m.cls) (hK : va_K D cl tys s) (hP : va_P D cl (fl L) H) (hD : va_D A (fl L)) (hS : va_S A H0 H locs) (kw q0 : Nat) (hL : L[kw]? = some Y) {fs : List Value} (he : Y[q0]? = some (a, .inr (ci, fs))) (hc : cl[ci]? = some (C, T, N)) (k : Nat) (hk : k < N) (hlink : (Cond.fieldLink own index ref (T k).2.1 (T k).2.2.1).before args s = true) (hsame : ∀ x, s.fieldFound? (T k).1 (T k).2.1 (T k).2.2.1 = some x → s.fieldFound? ref (T k).2.1 (T k).2.2.1 = some x) (hfin : (T k).2.2.2 = true) (hin2 : meth.name = "<init>") (hdecl : (T k).1 = own) {ty : FieldType} {v : Value} (hd : parseFieldDescriptor (T k).2.2.1 = some ty) (hn : narrow ty v = v) (hfit : fits ty v = true) (hl : k < fs.length) (hdg : decode cc pc = .ok (.putfield index, 3)) (kk : ∀ (H1 : Heap) (locs1 : List Loc), va_P D cl (fl (L.set kw (Y.set q0 (a, .inr (ci, fs.set k v))))) H1 → va_D A (fl (L.set kw (Y.set q0 (a, .inr (ci, fs.set k v))))) → va_S A H0 H1 locs1 → W p l e R s m args below meth c H1 locs1 cells slots Q (F0 m (pc + 3) ls rest)) : W p l e R s m args below meth c H locs cells slots Q (F0 m pc ls (v :: .ref a :: rest)) := by
  obtain ⟨i, h1, h2⟩ := fl_at hL he
  refine va_putF hx hb hts hin ty0 hty hnm hown hK hP hD hS i h1 hc k hk hlink hsame hfin hin2 hdecl hd hn hfit hl hdg fun H1 locs1 h3 h4 h5 => ?_
  rw [h2] at h3 h4
  exact kk H1 locs1 h3 h4 h5
theorem fv_getN (hx : p.tables.exec = Jvm.exec) (hb : c.code = cc) {own ref C : String} {T : u_T} {N ci index : Nat} {Ts : List Cond} (hts : ∀ w ∈ Ts, w.before args s = true) (hin : ∀ w ∈ u_ws C T N, w ∈ Ts) {host : String} (hown : s.vm.findClass own = some m.cls) (hK : va_K D cl tys s) (hP : va_P D cl (fl L) H) (kw q0 : Nat) (hL : L[kw]? = some Y) {fs : List Value} (he : Y[q0]? = some (a, .inr (ci, fs))) (hc : cl[ci]? = some (C, T, N)) (k : Nat) (hk : k < N) (hlink : (Cond.fieldLinkNest own index ref (T k).2.1 (T k).2.2.1 host).before args s = true) (hsame : ∀ x, s.fieldFound? (T k).1 (T k).2.1 (T k).2.2.1 = some x → s.fieldFound? ref (T k).2.1 (T k).2.2.1 = some x) {v : Value} (hv : fs[k]? = some v) (hdg : decode cc pc = .ok (.getfield index, 3)) (kk : W p l e R s m args below meth c H locs cells slots Q (F0 m (pc + 3) ls (v :: rest))) : W p l e R s m args below meth c H locs cells slots Q (F0 m pc ls (.ref a :: rest)) := va_getN hx hb hts hin hown hK (fl_P hP kw hL) q0 he hc k hk hlink hsame hv hdg kk
theorem fv_putN (hx : p.tables.exec = Jvm.exec) (hb : c.code = cc) {own ref C : String} {T : u_T} {N ci index : Nat} {Ts : List Cond} (hts : ∀ w ∈ Ts, w.before args s = true) (hin : ∀ w ∈ u_ws C T N, w ∈ Ts) {host : String} (ty0 : Nat → FieldType) (hty : ∀ k, k < N → parseFieldDescriptor (T k).2.2.1 = some (ty0 k)) (hnm : ∀ a, a < N → ∀ b, b < N → a ≠ b → (T a).2.1 ≠ (T b).2.1) (hown : s.vm.findClass own = some m.cls) (hK : va_K D cl tys s) (hP : va_P D cl (fl L) H) (hD : va_D A (fl L)) (hS : va_S A H0 H locs) (kw q0 : Nat) (hL : L[kw]? = some Y) {fs : List Value} (he : Y[q0]? = some (a, .inr (ci, fs))) (hc : cl[ci]? = some (C, T, N)) (k : Nat) (hk : k < N) (hlink : (Cond.fieldLinkNest own index ref (T k).2.1 (T k).2.2.1 host).before args s = true) (hsame : ∀ x, s.fieldFound? (T k).1 (T k).2.1 (T k).2.2.1 = some x → s.fieldFound? ref (T k).2.1 (T k).2.2.1 = some x) (hfin : (T k).2.2.2 = false) {ty : FieldType} {v : Value} (hd : parseFieldDescriptor (T k).2.2.1 = some ty) (hn : narrow ty v = v) (hfit : fits ty v = true) (hl : k < fs.length) (hdg : decode cc pc = .ok (.putfield index, 3)) (kk : ∀ (H1 : Heap) (locs1 : List Loc), va_P D cl (fl (L.set kw (Y.set q0 (a, .inr (ci, fs.set k v))))) H1 → va_D A (fl (L.set kw (Y.set q0 (a, .inr (ci, fs.set k v))))) → va_S A H0 H1 locs1 → W p l e R s m args below meth c H1 locs1 cells slots Q (F0 m (pc + 3) ls rest)) : W p l e R s m args below meth c H locs cells slots Q (F0 m pc ls (v :: .ref a :: rest)) := by
  obtain ⟨i, h1, h2⟩ := fl_at hL he
  refine va_putN hx hb hts hin ty0 hty hnm hown hK hP hD hS i h1 hc k hk hlink hsame hfin hd hn hfit hl hdg fun H1 locs1 h3 h4 h5 => ?_
  rw [h2] at h3 h4
  exact kk H1 locs1 h3 h4 h5
end FV
section FA
variable {p : Program} {l : Launch} {e : Env} {R : Room} {s : State} {m : MethodId} {args : Array Value} {below : List Frame} {meth : Method} {c : Code} {H : Heap} {locs : List Loc} {cells slots : Nat} {Q : State → Prop}
variable {cc : ByteArray} {pc : Nat} {ls : Array Slot} {rest : List Value} {D : va_G} {cl : List vw_C} {A : Nat → Prop} {a : Nat} {tys : List (ClassId × FieldType)} {L : List va_W} {Y : va_W} {H0 : Heap}
theorem fa_iald (hx : p.tables.exec = Jvm.exec) (hb : c.code = cc) (hK : va_K D cl tys s) (hP : va_P D cl (fl L) H) (kw q0 t0 : Nat) (hL : L[kw]? = some Y) {cA : ClassId} {n k : Nat} {f : Nat → Int32} (ha : Y[q0]? = some (a, .inl (cA, n, .inl f))) (ht : tys[t0]? = some (cA, .int)) (hk : k < n) (hn : n < 2 ^ 31) (hdg : decode cc pc = .ok (.iaload, 1)) (kk : W p l e R s m args below meth c H locs cells slots Q (F0 m (pc + 1) ls (.int (f k) :: rest))) : W p l e R s m args below meth c H locs cells slots Q (F0 m pc ls (.int (nI k) :: .ref a :: rest)) := na_iald hx hb hK (fl_P hP kw hL) q0 t0 ha ht hk hn hdg kk
theorem fa_zald (hx : p.tables.exec = Jvm.exec) (hb : c.code = cc) (hK : va_K D cl tys s) (hP : va_P D cl (fl L) H) (kw q0 t0 : Nat) (hL : L[kw]? = some Y) {cA : ClassId} {n k : Nat} {f : Nat → Int32} (ha : Y[q0]? = some (a, .inl (cA, n, .inl f))) (ht : tys[t0]? = some (cA, .boolean)) (hk : k < n) (hn : n < 2 ^ 31) (hdg : decode cc pc = .ok (.baload, 1)) (kk : W p l e R s m args below meth c H locs cells slots Q (F0 m (pc + 1) ls (.int (f k) :: rest))) : W p l e R s m args below meth c H locs cells slots Q (F0 m pc ls (.int (nI k) :: .ref a :: rest)) := na_zald hx hb hK (fl_P hP kw hL) q0 t0 ha ht hk hn hdg kk
theorem fa_lald (hx : p.tables.exec = Jvm.exec) (hb : c.code = cc) (hK : va_K D cl tys s) (hP : va_P D cl (fl L) H) (kw q0 t0 : Nat) (hL : L[kw]? = some Y) {cA : ClassId} {n k : Nat} {f : Nat → Int64} (ha : Y[q0]? = some (a, .inl (cA, n, .inr (.inl f)))) (ht : tys[t0]? = some (cA, .long)) (hk : k < n) (hn : n < 2 ^ 31) (hdg : decode cc pc = .ok (.laload, 1)) (kk : W p l e R s m args below meth c H locs cells slots Q (F0 m (pc + 1) ls (.long (f k) :: rest))) : W p l e R s m args below meth c H locs cells slots Q (F0 m pc ls (.int (nI k) :: .ref a :: rest)) := na_lald hx hb hK (fl_P hP kw hL) q0 t0 ha ht hk hn hdg kk
theorem fa_aldq (hx : p.tables.exec = Jvm.exec) (hb : c.code = cc) (hK : va_K D cl tys s) (hP : va_P D cl (fl L) H) (kw q0 t0 : Nat) (hL : L[kw]? = some Y) {cA : ClassId} {C : String} {n k : Nat} {f : Nat → Option Nat} (ha : Y[q0]? = some (a, .inl (cA, n, .inr (.inr (.inr (.inr f)))))) (ht : tys[t0]? = some (cA, .object C)) (hk : k < n) (hn : n < 2 ^ 31) (hdg : decode cc pc = .ok (.aaload, 1)) (kk : W p l e R s m args below meth c H locs cells slots Q (F0 m (pc + 1) ls (va_rf (f k) :: rest))) : W p l e R s m args below meth c H locs cells slots Q (F0 m pc ls (.int (nI k) :: .ref a :: rest)) := na_aldq hx hb hK (fl_P hP kw hL) q0 t0 ha ht hk hn hdg kk
theorem fa_iast (hx : p.tables.exec = Jvm.exec) (hb : c.code = cc) (hK : va_K D cl tys s) (hP : va_P D cl (fl L) H) (hD : va_D A (fl L)) (hS : va_S A H0 H locs) (kw q0 t0 : Nat) (hL : L[kw]? = some Y) {cA : ClassId} {n k : Nat} {f : Nat → Int32} (ha : Y[q0]? = some (a, .inl (cA, n, .inl f))) (ht : tys[t0]? = some (cA, .int)) {x : Int32} (hk : k < n) (hn : n < 2 ^ 31) (hdg : decode cc pc = .ok (.iastore, 1)) (kk : ∀ (H1 : Heap) (locs1 : List Loc), va_P D cl (fl (L.set kw (Y.set q0 (a, .inl (cA, n, .inl (upd f k x)))))) H1 → va_D A (fl (L.set kw (Y.set q0 (a, .inl (cA, n, .inl (upd f k x)))))) → va_S A H0 H1 locs1 → W p l e R s m args below meth c H1 locs1 cells slots Q (F0 m (pc + 1) ls rest)) : W p l e R s m args below meth c H locs cells slots Q (F0 m pc ls (.int x :: .int (nI k) :: .ref a :: rest)) := by
  obtain ⟨i, h1, h2⟩ := fl_at hL ha
  refine na_iast hx hb hK hP hD hS i t0 h1 ht hk hn hdg fun H1 locs1 h3 h4 h5 => ?_
  rw [h2] at h3 h4
  exact kk H1 locs1 h3 h4 h5
theorem fa_zast (hx : p.tables.exec = Jvm.exec) (hb : c.code = cc) (hK : va_K D cl tys s) (hP : va_P D cl (fl L) H) (hD : va_D A (fl L)) (hS : va_S A H0 H locs) (kw q0 t0 : Nat) (hL : L[kw]? = some Y) {cA : ClassId} {n k : Nat} {f : Nat → Int32} (ha : Y[q0]? = some (a, .inl (cA, n, .inl f))) (ht : tys[t0]? = some (cA, .boolean)) {x : Int32} (h01 : x = 0 ∨ x = 1) (hk : k < n) (hn : n < 2 ^ 31) (hdg : decode cc pc = .ok (.bastore, 1)) (kk : ∀ (H1 : Heap) (locs1 : List Loc), va_P D cl (fl (L.set kw (Y.set q0 (a, .inl (cA, n, .inl (upd f k x)))))) H1 → va_D A (fl (L.set kw (Y.set q0 (a, .inl (cA, n, .inl (upd f k x)))))) → va_S A H0 H1 locs1 → W p l e R s m args below meth c H1 locs1 cells slots Q (F0 m (pc + 1) ls rest)) : W p l e R s m args below meth c H locs cells slots Q (F0 m pc ls (.int x :: .int (nI k) :: .ref a :: rest)) := by
  obtain ⟨i, h1, h2⟩ := fl_at hL ha
  refine na_zast hx hb hK hP hD hS i t0 h1 ht h01 hk hn hdg fun H1 locs1 h3 h4 h5 => ?_
  rw [h2] at h3 h4
  exact kk H1 locs1 h3 h4 h5
theorem fa_last (hx : p.tables.exec = Jvm.exec) (hb : c.code = cc) (hK : va_K D cl tys s) (hP : va_P D cl (fl L) H) (hD : va_D A (fl L)) (hS : va_S A H0 H locs) (kw q0 t0 : Nat) (hL : L[kw]? = some Y) {cA : ClassId} {n k : Nat} {f : Nat → Int64} (ha : Y[q0]? = some (a, .inl (cA, n, .inr (.inl f)))) (ht : tys[t0]? = some (cA, .long)) {x : Int64} (hk : k < n) (hn : n < 2 ^ 31) (hdg : decode cc pc = .ok (.lastore, 1)) (kk : ∀ (H1 : Heap) (locs1 : List Loc), va_P D cl (fl (L.set kw (Y.set q0 (a, .inl (cA, n, .inr (.inl (vp_updL f k x))))))) H1 → va_D A (fl (L.set kw (Y.set q0 (a, .inl (cA, n, .inr (.inl (vp_updL f k x))))))) → va_S A H0 H1 locs1 → W p l e R s m args below meth c H1 locs1 cells slots Q (F0 m (pc + 1) ls rest)) : W p l e R s m args below meth c H locs cells slots Q (F0 m pc ls (.long x :: .int (nI k) :: .ref a :: rest)) := by
  obtain ⟨i, h1, h2⟩ := fl_at hL ha
  refine na_last hx hb hK hP hD hS i t0 h1 ht hk hn hdg fun H1 locs1 h3 h4 h5 => ?_
  rw [h2] at h3 h4
  exact kk H1 locs1 h3 h4 h5
end FA
