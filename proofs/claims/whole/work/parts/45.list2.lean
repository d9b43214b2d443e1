/-! lists: the empty row that all new lists share; a new row of references; stores of references -/
theorem W_more {p : Program} {l : Launch} {e : Env} {R : Room} {s : State} {m : MethodId} {args : Array Value} {below : List Frame} {meth : Method} {c : Code} {H : Heap} {locs : List Loc} {cells slots : Nat} {Q : State → Prop} {cells' slots' : Nat} {g : JFrame} (hc : cells ≤ cells') (hs : slots ≤ slots') (k : W p l e R s m args below meth c H locs cells' slots' Q g) : W p l e R s m args below meth c H locs cells slots Q g := fun T hT X => k T hT { X with same := X.same.mono hc hs }
/-- words that a call does not carry along: they stand in the precondition -/
def zL : List Cond := [.castable "PartShelves$Part" "PartShelves$Part", .castable "PartShelves$Ask" "PartShelves$Ask", .castable "PartShelves$Job" "PartShelves$Job", .castable "PartShelves$Part" "java/lang/Object", .castable "PartShelves$Ask" "java/lang/Object", .castable "PartShelves$Job" "java/lang/Object",
  .methodLinkNest "PartShelves" 9 ⟨"PartShelves$PriceRows", "<init>", "()V"⟩ "PartShelves", .methodLinkNest "PartShelves" 35 ⟨"PartShelves$Matching", "<init>", "()V"⟩ "PartShelves", .methodLinkNest "PartShelves" 42 ⟨"PartShelves$RepairPlan", "<init>", "()V"⟩ "PartShelves", .methodLinkNest "PartShelves" 188 ⟨"PartShelves$Job", "<init>", "()V"⟩ "PartShelves", .methodLinkNest "PartShelves$RepairPlan" 50 ⟨"PartShelves", "hasMember", "(II)Z"⟩ "PartShelves"]
theorem zL_tab : ∀ w ∈ zL, w.onTables = true := by
  intro w hw
  simp only [zL, List.mem_cons, List.not_mem_nil, or_false] at hw
  rcases hw with rfl | rfl | rfl | rfl | rfl | rfl | rfl | rfl | rfl | rfl | rfl <;> rfl
theorem zL_warm {w : Cond} (hw : w ∈ zL) {u U : State} (hW : u.WarmedH U.vm) (h : va_Nw w u) : va_Nw w U := by
  simp only [zL, List.mem_cons, List.not_mem_nil, or_false] at hw
  rcases hw with rfl | rfl | rfl | rfl | rfl | rfl | rfl | rfl | rfl | rfl | rfl <;> first | exact va_Nw.warmC hW h | exact va_Nw.warmM hW h
def zAA (U : State) : Prop := (Cond.arrayOver (.array .long)).before #[] U = true
def zW (U : State) : Prop := (∀ w ∈ zL, va_Nw w U) ∧ va_AO "java/lang/Object" U ∧ zAA U
theorem zW.warm {u U : State} (hW : u.WarmedH U.vm) (h : zW u) : zW U := ⟨fun w hw => zL_warm hw hW (h.1 w hw), h.2.1.moved hW.alike, over_moved hW.alike h.2.2⟩
theorem zW.same {u U : State} (h0 : u.vm = U.vm) (h : zW u) : zW U := ⟨fun w hw => va_Nw.same (zL_tab w hw) h0 (h.1 w hw), h.2.1.moved (h0 ▸ Vm.Alike.refl u.vm), over_moved (h0 ▸ Vm.Alike.refl u.vm) h.2.2⟩
def lzE (eD : Nat) (A : Nat → Prop) (U : State) (H : Heap) : Prop := va_Z "java/util/ArrayList" "DEFAULTCAPACITY_EMPTY_ELEMENTDATA" "[Ljava/lang/Object;" (.ref eD) A U H ∧ va_T (.object "java/lang/Object") eD 0 (fun _ => .null) A U H ∧ zW U
theorem lzE.moved {eD : Nat} {A : Nat → Prop} {u U : State} {H : Heap} (hW : u.WarmedH U.vm) (h : lzE eD A u H) : lzE eD A U H := ⟨h.1.moved hW.alike, h.2.1.moved hW.alike, h.2.2.warm hW⟩
theorem lzE.same {eD : Nat} {A : Nat → Prop} {u U : State} {H : Heap} (h0 : u.vm = U.vm) (h : lzE eD A u H) : lzE eD A U H := ⟨h.1.moved (h0 ▸ Vm.Alike.refl u.vm), h.2.1.moved (h0 ▸ Vm.Alike.refl u.vm), h.2.2.same h0⟩
theorem lzE.kept {eD : Nat} {A : Nat → Prop} {U : State} {H H1 : Heap} (h : lzE eD A U H) (hq : ∀ a : Nat, a < H.size → ¬ A a → H1[a]? = H[a]?) : lzE eD A U H1 := ⟨h.1.kept hq, h.2.1.kept hq, h.2.2⟩
theorem lzE.narrow {eD : Nat} {A B : Nat → Prop} {U : State} {H : Heap} (h : lzE eD A U H) (hAB : ∀ q, B q → A q) : lzE eD B U H := ⟨h.1.narrow hAB, h.2.1.narrow hAB, h.2.2⟩
def gPz (cl : List vw_C) (D : va_G) (tys : List (ClassId × FieldType)) (av : List Value) (w : va_W) (sz eD : Nat) : Array Value → State → Prop := va_Pc av (fun U => U.heap.size = sz ∧ va_P D cl w U.heap ∧ va_K D cl tys U ∧ va_D (fun _ => True) w ∧ lzE eD (va_A w sz) U U.heap)
theorem gPz_blind {cl : List vw_C} {D : va_G} {tys : List (ClassId × FieldType)} {av : List Value} {w : va_W} {sz eD : Nat} : FrameBlind (gPz cl D tys av w sz eD) := fun a U g mk q => by
  obtain ⟨q0, q1, qP, qK, qD, qZ⟩ := q
  exact ⟨q0, q1, qP, va_K.moved (u := U) (U := U.calling g mk a) (Vm.Alike.refl U.vm) qK, qD, lzE.same (u := U) (U := U.calling g mk a) rfl qZ⟩
section ZP
variable {s : State} {H : Heap} {cl : List vw_C} {D : va_G} {tys : List (ClassId × FieldType)} {w : va_W} {A : Nat → Prop} {As : List Value} {C : String} {b : Addr} {locs : List Loc} {eD : Nat}
theorem lz_at (hz : lzE eD A s s.heap) (hS : va_S A s.heap H locs) (hF : ∀ q, va_A w H.size q → A q) : lzE eD (va_A w H.size) s H := (hz.kept (fun a h1 h2 => hS.2.1 a h1 h2)).narrow hF
theorem z_preS (hz : lzE eD A s s.heap) (hS : va_S A s.heap H locs) (hF : ∀ q, va_A w H.size q → A q) (hK : va_K D cl tys s) (hP : va_P D cl w H) (hD : va_D A w) : PreS s H (gPz cl D tys As w H.size eD) As := ⟨gPz_blind, fun U hU hW => ⟨rfl, by rw [hU], by rw [hU]; exact hP, va_K.moved hW.alike hK, hD.weaken (fun _ _ _ _ => trivial), by rw [hU]; exact (lz_at hz hS hF).moved hW⟩⟩
theorem z_preV (hr : ∃ cell : Cell, H[b]? = some cell ∧ cell.vm.isStatics = false ∧ s.vm.findClass C = some cell.cls) (hz : lzE eD A s s.heap) (hS : va_S A s.heap H locs) (hF : ∀ q, va_A w H.size q → A q) (hK : va_K D cl tys s) (hP : va_P D cl w H) (hD : va_D A w) : PreV s H C b (gPz cl D tys (.ref b :: As) w H.size eD) As := ⟨gPz_blind, hr, fun U hU hW => ⟨rfl, by rw [hU], by rw [hU]; exact hP, va_K.moved hW.alike hK, hD.weaken (fun _ _ _ _ => trivial), by rw [hU]; exact (lz_at hz hS hF).moved hW⟩⟩
end ZP
theorem RA_obj {s : State} {a b : ClassId} {C : String} (h1 : va_RA s a (.object C)) (h2 : va_RA s b (.object C)) : a = b := by
  obtain ⟨_, _, _, _, _, e1⟩ := h1
  obtain ⟨_, _, _, _, _, e2⟩ := h2
  exact Option.some.inj (e1.symm.trans e2)
section NQ
variable {p : Program} {l : Launch} {e : Env} {R : Room} {s : State} {m : MethodId} {args : Array Value} {below : List Frame} {meth : Method} {c : Code} {H : Heap} {locs : List Loc} {cells slots mc ms : Nat} {Q : State → Prop}
variable {cc : ByteArray} {pc : Nat} {ls : Array Slot} {rest st0 : List Value} {D : va_G} {cl : List vw_C} {A : Nat → Prop} {a : Nat} {tys : List (ClassId × FieldType)} {L : List va_W} {Y Z : va_W} {H0 : Heap} {ar : Array Value}
theorem fv_newq (hx : p.tables.exec = Jvm.exec) (hb : c.code = cc) {own C : String} {index : Nat} (hown : s.vm.findClass own = some m.cls) (hclink : (Cond.classLink own index C).before args s = true) (hover : va_AO C s) (hK : va_K D cl tys s) (hP : va_P D cl (fl L) H) (hD : va_D A (fl L)) (hS : va_S A H0 H locs) (hA : ∀ q, H0.size ≤ q → A q)
    (t0 : Nat) {kB : ClassId} (ht : tys[t0]? = some (kB, .object C)) {N : Nat} (hN : N < 2 ^ 31) (hbytes : N * 4 ≤ 536870912) (hcells : cells + 1 ≤ R.cells) (hslots : slots + N ≤ R.slots) (hdg : decode cc pc = .ok (.anewarray index, 3))
    (kk : ∀ (q : Nat) (H1 : Heap), va_P D cl (fl (L ++ [[(q, .inl (kB, N, .inr (.inr (.inr (.inr (fun _ => none))))))]])) H1 → va_D A (fl (L ++ [[(q, .inl (kB, N, .inr (.inr (.inr (.inr (fun _ => none))))))]])) → va_S A H0 H1 locs →
      W p l e R s m args below meth c H1 locs (cells + 1) (slots + N) Q (F0 m (pc + 3) ls (.ref q :: rest))) : W p l e R s m args below meth c H locs cells slots Q (F0 m pc ls (.int (nI N) :: rest)) := by
  refine va_newq hx hb hown hclink hover hK hP hD hS hA (nI_pos hN) (nI_clamp hN) hbytes hcells hslots hdg fun q cA H1 hK2 hP2 hD2 hS2 => ?_
  have h1 := (hK2.2 tys.length (cA, .object C) (by rw [List.getElem?_append_right (Nat.le_refl _), Nat.sub_self]; rfl)).2
  have h2 := (hK.2 t0 _ ht).2
  have e := RA_obj h1 h2
  subst e
  rw [← fl_snoc] at hP2 hD2
  exact kk q H1 hP2 hD2 hS2
theorem fa_astqO (hx : p.tables.exec = Jvm.exec) (hb : c.code = cc) (hK : va_K D cl tys s) (hP : va_P D cl (fl L) H) (hD : va_D A (fl L)) (hS : va_S A H0 H locs) (kw q0 t0 kv qv ci : Nat) (hL : L[kw]? = some Y) (hLv : L[kv]? = some Z) {E : String} {cA : ClassId} {r : vw_C} {n v k : Nat} {vs : List Value} {f : Nat → Option Nat} (ha : Y[q0]? = some (a, .inl (cA, n, .inr (.inr (.inr (.inr f)))))) (ht : tys[t0]? = some (cA, .object E)) (hca : va_Nw (.castable r.1 E) s) (hv : Z[qv]? = some (v, .inr (ci, vs))) (hc : cl[ci]? = some r) (hk : k < n) (hn : n < 2 ^ 31) (hdg : decode cc pc = .ok (.aastore, 1))
    (kk : ∀ (H1 : Heap) (locs1 : List Loc), va_P D cl (fl (L.set kw (Y.set q0 (a, .inl (cA, n, .inr (.inr (.inr (.inr (va_up f k (some v)))))))))) H1 → va_D A (fl (L.set kw (Y.set q0 (a, .inl (cA, n, .inr (.inr (.inr (.inr (va_up f k (some v)))))))))) → va_S A H0 H1 locs1 → W p l e R s m args below meth c H1 locs1 cells slots Q (F0 m (pc + 1) ls rest)) : W p l e R s m args below meth c H locs cells slots Q (F0 m pc ls (.ref v :: .int (nI k) :: .ref a :: rest)) := by
  obtain ⟨i, h1, h2⟩ := fl_at hL ha
  obtain ⟨j, h3, -⟩ := fl_at hLv hv
  refine va_astqO hx hb hK hP hD hS i t0 j ci h1 ht hca h3 hc (vp_in_nI hk hn) hdg fun H1 locs1 h4 h5 h6 => ?_
  rw [nI_clamp (Nat.lt_trans hk hn), h2] at h4 h5
  exact kk H1 locs1 h4 h5 h6
def gQr (cl : List vw_C) (D : va_G) (tys : List (ClassId × FieldType)) (w : va_W) (sz : Nat) (w1 : Nat → va_W) : Array Value → State → Outcome → State → Prop := va_Qr (fun (_ : Unit) => True) (fun _ a t => gB cl D tys (va_A w sz) (w1 a) t) (va_A w sz)
theorem g_callrA {L1 : Nat → List va_W} (hr : va_Run p l e R s m args below meth c H locs cells slots mc ms (F0 m pc ls st0) rest (gQr cl D tys (fl L) H.size (fun a => fl (L1 a)) ar) (va_A (fl L) H.size)) (hS : va_S A s.heap H locs) (hA : ∀ q, s.heap.size ≤ q → A q) (hD : va_D A (fl L)) (kk : ∀ (ra : Nat) (H1 : Heap) (locs1 : List Loc), va_P D cl (fl (L1 ra)) H1 → va_D A (fl (L1 ra)) → va_S A s.heap H1 locs1 → W p l e R s m args below meth c H1 locs1 (cells + mc) (slots + ms) Q (F0 m (pc + 3) ls (.ref ra :: rest))) : W p l e R s m args below meth c H locs cells slots Q (F0 m pc ls st0) := by
  have hF := fl_freeA hD hS hA
  refine va_callr hr hS (fun q _ h => hF q h) hF (fun u ra t H1 locs1 ht hvm hw hB hz hk hS1 => ?_)
  exact kk ra H1 locs1 (ht ▸ hB.1) (hB.2.2.weaken fun _ _ _ h => hF _ h) hS1
/-- a call that makes cells, over a part of the worlds: what is found has the type S -/
theorem g_callvS {S : Type} {post : S → Prop} {L1 : S → va_W} (k : Nat) (hr : va_Run p l e R s m args below meth c H locs cells slots mc ms (F0 m pc ls st0) rest (va_Qv post (fun u t => gB cl D tys (va_A (fl [Y]) H.size) (L1 u) t) (va_A (fl [Y]) H.size) ar) (va_A (fl [Y]) H.size)) (hS : va_S A s.heap H locs) (hA : ∀ q, s.heap.size ≤ q → A q) (hP : va_P D cl (fl L) H) (hD : va_D A (fl L)) (hL : L[k]? = some Y) (kk : ∀ (u : S) (H1 : Heap) (locs1 : List Loc), post u → va_P D cl (fl (L.set k (L1 u))) H1 → va_D A (fl (L.set k (L1 u))) → va_S A s.heap H1 locs1 → W p l e R s m args below meth c H1 locs1 (cells + mc) (slots + ms) Q (F0 m (pc + 3) ls rest)) : W p l e R s m args below meth c H locs cells slots Q (F0 m pc ls st0) := by
  rw [fl_1] at hr
  have hF := fl_free hD hS hA k hL
  refine va_callv hr hS (fun q _ h => hF q h) hF (fun u t H1 locs1 ht hvm hw hB hz hk hS1 => ?_)
  obtain ⟨h1, h2⟩ := fr_k hP hD k hL hk hF (ht ▸ hB.1) hB.2.2
  exact kk u H1 locs1 hw h1 h2 hS1
end NQ
