/-! standard forms of contracts: a method over a world (fl L) that it may change, or only reads -/
def gPre (cl : List vw_C) (D : va_G) (tys : List (ClassId × FieldType)) (av : List Value) (w : va_W) (sz : Nat) : Array Value → State → Prop := va_Pc av (fun U => U.heap.size = sz ∧ va_P D cl w U.heap ∧ va_K D cl tys U ∧ va_D (fun _ => True) w)
def gPr (cl : List vw_C) (D : va_G) (tys : List (ClassId × FieldType)) (av : List Value) (w : va_W) : Array Value → State → Prop := va_Pc av (fun U => va_P D cl w U.heap ∧ va_K D cl tys U)
def gP0 (av : List Value) : Array Value → State → Prop := fun v _ => v = av.toArray
def gB (cl : List vw_C) (D : va_G) (tys : List (ClassId × FieldType)) (A : Nat → Prop) (w : va_W) (t : State) : Prop := va_P D cl w t.heap ∧ va_K D cl tys t ∧ va_D A w
def gQi (cl : List vw_C) (D : va_G) (tys : List (ClassId × FieldType)) (w : va_W) (sz : Nat) (f : Int32) (w1 : va_W) : Array Value → State → Outcome → State → Prop := va_Qi (fun r (_ : Unit) => r = f) (fun _ t => gB cl D tys (va_A w sz) w1 t) (va_A w sz)
def gQl (cl : List vw_C) (D : va_G) (tys : List (ClassId × FieldType)) (w : va_W) (sz : Nat) (f : Int64) (w1 : va_W) : Array Value → State → Outcome → State → Prop := va_Ql (fun r (_ : Unit) => r = f) (fun _ t => gB cl D tys (va_A w sz) w1 t) (va_A w sz)
def gQv (cl : List vw_C) (D : va_G) (tys : List (ClassId × FieldType)) (w : va_W) (sz : Nat) (w1 : va_W) : Array Value → State → Outcome → State → Prop := va_Qv (fun (_ : Unit) => True) (fun _ t => gB cl D tys (va_A w sz) w1 t) (va_A w sz)
theorem gPre_blind {cl : List vw_C} {D : va_G} {tys : List (ClassId × FieldType)} {av : List Value} {w : va_W} {sz : Nat} : FrameBlind (gPre cl D tys av w sz) := fun a U g mk q => by
  obtain ⟨q0, q1, qP, qK, qD⟩ := q
  exact ⟨q0, q1, qP, va_K.moved (u := U) (U := U.calling g mk a) (Vm.Alike.refl U.vm) qK, qD⟩
theorem gPr_blind {cl : List vw_C} {D : va_G} {tys : List (ClassId × FieldType)} {av : List Value} {w : va_W} : FrameBlind (gPr cl D tys av w) := fun a U g mk q => by
  obtain ⟨q0, qP, qK⟩ := q
  exact ⟨q0, qP, va_K.moved (u := U) (U := U.calling g mk a) (Vm.Alike.refl U.vm) qK⟩
section GP
variable {s : State} {H : Heap} {cl : List vw_C} {D : va_G} {tys : List (ClassId × FieldType)} {w : va_W} {A : Nat → Prop} {As : List Value} {C : String} {b : Addr}
theorem g_preS (hK : va_K D cl tys s) (hP : va_P D cl w H) (hD : va_D A w) : PreS s H (gPre cl D tys As w H.size) As := ⟨gPre_blind, fun U hU hW => ⟨rfl, by rw [hU], by rw [hU]; exact hP, va_K.moved hW.alike hK, hD.weaken (fun _ _ _ _ => trivial)⟩⟩
theorem g_preV (hr : ∃ cell : Cell, H[b]? = some cell ∧ cell.vm.isStatics = false ∧ s.vm.findClass C = some cell.cls) (hK : va_K D cl tys s) (hP : va_P D cl w H) (hD : va_D A w) : PreV s H C b (gPre cl D tys (.ref b :: As) w H.size) As := ⟨gPre_blind, hr, fun U hU hW => ⟨rfl, by rw [hU], by rw [hU]; exact hP, va_K.moved hW.alike hK, hD.weaken (fun _ _ _ _ => trivial)⟩⟩
theorem r_preS (hK : va_K D cl tys s) (hP : va_P D cl w H) : PreS s H (gPr cl D tys As w) As := ⟨gPr_blind, fun U hU hW => ⟨rfl, by rw [hU]; exact hP, va_K.moved hW.alike hK⟩⟩
theorem r_preV (hr : ∃ cell : Cell, H[b]? = some cell ∧ cell.vm.isStatics = false ∧ s.vm.findClass C = some cell.cls) (hK : va_K D cl tys s) (hP : va_P D cl w H) : PreV s H C b (gPr cl D tys (.ref b :: As) w) As := ⟨gPr_blind, hr, fun U hU hW => ⟨rfl, by rw [hU]; exact hP, va_K.moved hW.alike hK⟩⟩
theorem p0_preS : PreS s H (gP0 As) As := ⟨fun _ _ _ _ q => q, fun _ _ _ => rfl⟩
theorem fl_1 {Y : va_W} : fl [Y] = Y := by show Y ++ [] = Y; exact List.append_nil Y
theorem fl_D1 {L : List va_W} {Y : va_W} (hD : va_D A (fl L)) (k : Nat) (hL : L[k]? = some Y) : va_D A (fl [Y]) := by rw [fl_1]; exact fl_D hD k hL
theorem f_recv {L : List va_W} {Y : va_W} {q0 ci : Nat} {q : vw_C} {fs : List Value} (hK : va_K D cl tys s) (hP : va_P D cl (fl L) H) (kw : Nat) (hL : L[kw]? = some Y) (hc : cl[ci]? = some q) (he : Y[q0]? = some (b, .inr (ci, fs))) : ∃ cell : Cell, H[b]? = some cell ∧ cell.vm.isStatics = false ∧ s.vm.findClass q.1 = some cell.cls := va_recv hK (fl_P hP kw hL) hc he
end GP
theorem nar_b {v : Int32} (h : v = 0 ∨ v = 1) : narrow .boolean (.int v) = .int v := by rcases h with h | h <;> subst h <;> rfl
section GC
variable {p : Program} {l : Launch} {e : Env} {R : Room} {s : State} {m : MethodId} {args : Array Value} {below : List Frame} {meth : Method} {c : Code} {H : Heap} {locs : List Loc} {cells slots mc ms : Nat} {Q : State → Prop}
variable {pc : Nat} {ls : Array Slot} {rest st0 : List Value} {a : Array Value} {cl : List vw_C} {D : va_G} {tys : List (ClassId × FieldType)} {A : Nat → Prop} {L L1 : List va_W} {Y Y1 : va_W}
theorem r_calli {f : Int32} (hr : CallRun p l e R s m args below meth c H locs cells slots 0 0 (F0 m pc ls st0) rest (vp_Si (fun r => r = f) a) (fun _ => False)) (kk : W p l e R s m args below meth c H locs cells slots Q (F0 m (pc + 3) ls (.int f :: rest))) : W p l e R s m args below meth c H locs cells slots Q (F0 m pc ls st0) := vp_callSi hr (fun r h => by subst h; exact kk)
theorem g_calli {f : Int32} (hr : va_Run p l e R s m args below meth c H locs cells slots mc ms (F0 m pc ls st0) rest (gQi cl D tys (fl [Y]) H.size f (fl [Y1]) a) (va_A (fl [Y]) H.size)) (hS : va_S A s.heap H locs) (hA : ∀ q, s.heap.size ≤ q → A q) (hP : va_P D cl (fl L) H) (hD : va_D A (fl L)) (k : Nat) (hL : L[k]? = some Y) (kk : ∀ (H1 : Heap) (locs1 : List Loc), va_P D cl (fl (L.set k Y1)) H1 → va_D A (fl (L.set k Y1)) → va_S A s.heap H1 locs1 → W p l e R s m args below meth c H1 locs1 (cells + mc) (slots + ms) Q (F0 m (pc + 3) ls (.int f :: rest))) : W p l e R s m args below meth c H locs cells slots Q (F0 m pc ls st0) := by
  rw [fl_1, fl_1] at hr
  have hF := fl_free hD hS hA k hL
  refine va_calli hr hS (fun q _ h => hF q h) hF (fun r u t H1 locs1 ht hvm hw hB hz hk hS1 => ?_)
  subst hw
  obtain ⟨h1, h2⟩ := fr_k hP hD k hL hk hF (ht ▸ hB.1) hB.2.2
  exact kk H1 locs1 h1 h2 hS1
theorem g_calliA {f : Int32} (hr : va_Run p l e R s m args below meth c H locs cells slots mc ms (F0 m pc ls st0) rest (gQi cl D tys (fl L) H.size f (fl L1) a) (va_A (fl L) H.size)) (hS : va_S A s.heap H locs) (hA : ∀ q, s.heap.size ≤ q → A q) (hD : va_D A (fl L)) (kk : ∀ (H1 : Heap) (locs1 : List Loc), va_P D cl (fl L1) H1 → va_D A (fl L1) → va_S A s.heap H1 locs1 → W p l e R s m args below meth c H1 locs1 (cells + mc) (slots + ms) Q (F0 m (pc + 3) ls (.int f :: rest))) : W p l e R s m args below meth c H locs cells slots Q (F0 m pc ls st0) := by
  have hF := fl_freeA hD hS hA
  refine va_calli hr hS (fun q _ h => hF q h) hF (fun r u t H1 locs1 ht hvm hw hB hz hk hS1 => ?_)
  subst hw
  exact kk H1 locs1 (ht ▸ hB.1) (hB.2.2.weaken fun _ _ _ h => hF _ h) hS1
theorem r_calll {f : Int64} (hr : CallRun p l e R s m args below meth c H locs cells slots 0 0 (F0 m pc ls st0) rest (vp_Sl (fun r => r = f) a) (fun _ => False)) (kk : W p l e R s m args below meth c H locs cells slots Q (F0 m (pc + 3) ls (.long f :: rest))) : W p l e R s m args below meth c H locs cells slots Q (F0 m pc ls st0) := vp_callSl hr (fun r h => by subst h; exact kk)
theorem g_calll {f : Int64} (hr : va_Run p l e R s m args below meth c H locs cells slots mc ms (F0 m pc ls st0) rest (gQl cl D tys (fl [Y]) H.size f (fl [Y1]) a) (va_A (fl [Y]) H.size)) (hS : va_S A s.heap H locs) (hA : ∀ q, s.heap.size ≤ q → A q) (hP : va_P D cl (fl L) H) (hD : va_D A (fl L)) (k : Nat) (hL : L[k]? = some Y) (kk : ∀ (H1 : Heap) (locs1 : List Loc), va_P D cl (fl (L.set k Y1)) H1 → va_D A (fl (L.set k Y1)) → va_S A s.heap H1 locs1 → W p l e R s m args below meth c H1 locs1 (cells + mc) (slots + ms) Q (F0 m (pc + 3) ls (.long f :: rest))) : W p l e R s m args below meth c H locs cells slots Q (F0 m pc ls st0) := by
  rw [fl_1, fl_1] at hr
  have hF := fl_free hD hS hA k hL
  refine va_calll hr hS (fun q _ h => hF q h) hF (fun r u t H1 locs1 ht hvm hw hB hz hk hS1 => ?_)
  subst hw
  obtain ⟨h1, h2⟩ := fr_k hP hD k hL hk hF (ht ▸ hB.1) hB.2.2
  exact kk H1 locs1 h1 h2 hS1
theorem g_calllA {f : Int64} (hr : va_Run p l e R s m args below meth c H locs cells slots mc ms (F0 m pc ls st0) rest (gQl cl D tys (fl L) H.size f (fl L1) a) (va_A (fl L) H.size)) (hS : va_S A s.heap H locs) (hA : ∀ q, s.heap.size ≤ q → A q) (hD : va_D A (fl L)) (kk : ∀ (H1 : Heap) (locs1 : List Loc), va_P D cl (fl L1) H1 → va_D A (fl L1) → va_S A s.heap H1 locs1 → W p l e R s m args below meth c H1 locs1 (cells + mc) (slots + ms) Q (F0 m (pc + 3) ls (.long f :: rest))) : W p l e R s m args below meth c H locs cells slots Q (F0 m pc ls st0) := by
  have hF := fl_freeA hD hS hA
  refine va_calll hr hS (fun q _ h => hF q h) hF (fun r u t H1 locs1 ht hvm hw hB hz hk hS1 => ?_)
  subst hw
  exact kk H1 locs1 (ht ▸ hB.1) (hB.2.2.weaken fun _ _ _ h => hF _ h) hS1
theorem r_callv (hr : CallRun p l e R s m args below meth c H locs cells slots 0 0 (F0 m pc ls st0) rest (va_Sv (fun _ => True) a) (fun _ => False)) (kk : W p l e R s m args below meth c H locs cells slots Q (F0 m (pc + 3) ls (rest))) : W p l e R s m args below meth c H locs cells slots Q (F0 m pc ls st0) := va_csv hr (fun _ => kk)
theorem g_callv (hr : va_Run p l e R s m args below meth c H locs cells slots mc ms (F0 m pc ls st0) rest (gQv cl D tys (fl [Y]) H.size (fl [Y1]) a) (va_A (fl [Y]) H.size)) (hS : va_S A s.heap H locs) (hA : ∀ q, s.heap.size ≤ q → A q) (hP : va_P D cl (fl L) H) (hD : va_D A (fl L)) (k : Nat) (hL : L[k]? = some Y) (kk : ∀ (H1 : Heap) (locs1 : List Loc), va_P D cl (fl (L.set k Y1)) H1 → va_D A (fl (L.set k Y1)) → va_S A s.heap H1 locs1 → W p l e R s m args below meth c H1 locs1 (cells + mc) (slots + ms) Q (F0 m (pc + 3) ls (rest))) : W p l e R s m args below meth c H locs cells slots Q (F0 m pc ls st0) := by
  rw [fl_1, fl_1] at hr
  have hF := fl_free hD hS hA k hL
  refine va_callv hr hS (fun q _ h => hF q h) hF (fun u t H1 locs1 ht hvm hw hB hz hk hS1 => ?_)
  obtain ⟨h1, h2⟩ := fr_k hP hD k hL hk hF (ht ▸ hB.1) hB.2.2
  exact kk H1 locs1 h1 h2 hS1
theorem g_callvA (hr : va_Run p l e R s m args below meth c H locs cells slots mc ms (F0 m pc ls st0) rest (gQv cl D tys (fl L) H.size (fl L1) a) (va_A (fl L) H.size)) (hS : va_S A s.heap H locs) (hA : ∀ q, s.heap.size ≤ q → A q) (hD : va_D A (fl L)) (kk : ∀ (H1 : Heap) (locs1 : List Loc), va_P D cl (fl L1) H1 → va_D A (fl L1) → va_S A s.heap H1 locs1 → W p l e R s m args below meth c H1 locs1 (cells + mc) (slots + ms) Q (F0 m (pc + 3) ls (rest))) : W p l e R s m args below meth c H locs cells slots Q (F0 m pc ls st0) := by
  have hF := fl_freeA hD hS hA
  refine va_callv hr hS (fun q _ h => hF q h) hF (fun u t H1 locs1 ht hvm hw hB hz hk hS1 => ?_)
  exact kk H1 locs1 (ht ▸ hB.1) (hB.2.2.weaken fun _ _ _ h => hF _ h) hS1
theorem r_callq {f : Option Nat} (hr : CallRun p l e R s m args below meth c H locs cells slots 0 0 (F0 m pc ls st0) rest (va_Sq (fun r => r = f) a) (fun _ => False)) (kk : W p l e R s m args below meth c H locs cells slots Q (F0 m (pc + 3) ls (va_rf f :: rest))) : W p l e R s m args below meth c H locs cells slots Q (F0 m pc ls st0) := va_csq hr (fun r h => by subst h; exact kk)
end GC
