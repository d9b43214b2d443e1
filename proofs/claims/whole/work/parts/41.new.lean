/-! making cells: the list of worlds grows by one -/
theorem fl_snoc {L : List va_W} {Y : va_W} : fl (L ++ [Y]) = fl L ++ Y := by
  show List.flatten _ = _
  rw [List.flatten_append]
  show L.flatten ++ (Y ++ []) = _
  rw [List.append_nil]
theorem RA_one {s : State} {a b : ClassId} {ty : FieldType} (hp : ∀ C, ty ≠ .object C) (h1 : va_RA s a ty) (h2 : va_RA s b ty) : a = b := by
  cases ty <;> first | exact absurd rfl (hp _) | exact Option.some.inj (Eq.trans (Eq.symm h1) h2)
section NW
variable {p : Program} {l : Launch} {e : Env} {R : Room} {s : State} {m : MethodId} {args : Array Value} {below : List Frame} {meth : Method} {c : Code} {H : Heap} {locs : List Loc} {cells slots : Nat} {Q : State → Prop}
variable {cc : ByteArray} {pc : Nat} {ls : Array Slot} {rest : List Value} {D : va_G} {cl : List vw_C} {A : Nat → Prop} {tys : List (ClassId × FieldType)} {L : List va_W} {H0 : Heap}
theorem fv_newa (hx : p.tables.exec = Jvm.exec) (hb : c.code = cc) {atype : ArrayType} (harr : (Cond.arrayClass (newarray.typeOf atype)).before args s = true) {ty : FieldType} (hty : newarray.typeOf atype = ty) (hK : va_K D cl tys s) (hP : va_P D cl (fl L) H) (hD : va_D A (fl L)) (hS : va_S A H0 H locs) (hA : ∀ q, H0.size ≤ q → A q)
    (t0 : Nat) {kB : ClassId} (ht : tys[t0]? = some (kB, ty)) (hp : ∀ C, ty ≠ .object C) {N : Nat} {a0 : vp_A} (ha : ∀ cA : ClassId, vp_cell cA a0 = arrV cA N (fun _ => defaultValue ty)) (hN : N < 2 ^ 31) (hbytes : N * componentBytes ty ≤ 536870912) (hcells : cells + 1 ≤ R.cells) (hslots : slots + N ≤ R.slots) (hdg : decode cc pc = .ok (.newarray atype, 2))
    (kk : ∀ (q : Nat) (H1 : Heap), va_P D cl (fl (L ++ [[(q, .inl (kB, a0))]])) H1 → va_D A (fl (L ++ [[(q, .inl (kB, a0))]])) → va_S A H0 H1 locs → W p l e R s m args below meth c H1 locs (cells + 1) (slots + N) Q (F0 m (pc + 2) ls (.ref q :: rest))) : W p l e R s m args below meth c H locs cells slots Q (F0 m pc ls (.int (nI N) :: rest)) := by
  refine va_newa hx hb harr hty hK hP hD hS hA ha (nI_pos hN) (nI_clamp hN) hbytes hcells hslots hdg fun q cA H1 hK2 hP2 hD2 hS2 => ?_
  have h1 := (hK2.2 tys.length (cA, ty) (by rw [List.getElem?_append_right (Nat.le_refl _), Nat.sub_self]; rfl)).2
  have h2 := (hK.2 t0 _ ht).2
  have e := RA_one hp h1 h2
  subst e
  rw [← fl_snoc] at hP2 hD2
  exact kk q H1 hP2 hD2 hS2
theorem fv_new {c0 : Code} (hx : p.tables.exec = Jvm.exec) (hb : c0.code = cc) {own C : String} {T : u_T} {N ci index : Nat} {Ts : List Cond} (hts : ∀ w ∈ Ts, w.before args s = true) (hin : ∀ w ∈ u_ws C T N, w ∈ Ts) (ty : Nat → FieldType) (hty : ∀ k, k < N → parseFieldDescriptor (T k).2.2.1 = some (ty k)) (hown : s.vm.findClass own = some m.cls) (hcl : (Cond.classLink own index C).before args s = true) (hinst : (Cond.instantiable C N).before args s = true) (hini : (Cond.initialized C).before args s = true)
    (hK : va_K D cl tys s) (hP : va_P D cl (fl L) H) (hD : va_D A (fl L)) (hS : va_S A H0 H locs) (hA : ∀ q, H0.size ≤ q → A q) (hc : cl[ci]? = some (C, T, N)) {fs : List Value} (hfs : ∀ j, j < N → defaultValue (ty j) = vp_V fs j) (hcells : cells + 1 ≤ R.cells) (hslots : slots + N ≤ R.slots) (hdg : decode cc pc = .ok (.new index, 3))
    (kk : ∀ (q : Nat) (H1 : Heap), va_P D cl (fl (L ++ [[(q, .inr (ci, fs))]])) H1 → va_D A (fl (L ++ [[(q, .inr (ci, fs))]])) → va_S A H0 H1 locs →
      W p l e R s m args below meth c0 H1 locs (cells + 1) (slots + N) Q (F0 m (pc + 3) ls (.ref q :: rest))) : W p l e R s m args below meth c0 H locs cells slots Q (F0 m pc ls rest) :=
  va_new hx hb hts hin ty hty hown hcl hinst hini hK hP hD hS hA hc hfs hcells hslots hdg fun q H1 h1 h2 h3 => by
    rw [← fl_snoc] at h1 h2
    exact kk q H1 h1 h2 h3
end NW
theorem z_int (N : Nat) (cA : ClassId) : vp_cell cA (N, .inl (fun _ => nI 0)) = arrV cA N (fun _ => defaultValue .int) := rfl
theorem z_bool (N : Nat) (cA : ClassId) : vp_cell cA (N, .inl (fun _ => nI 0)) = arrV cA N (fun _ => defaultValue .boolean) := rfl
theorem z_long (N : Nat) (cA : ClassId) : vp_cell cA (N, .inr (.inl (fun _ => lN 0))) = arrV cA N (fun _ => defaultValue .long) := rfl
