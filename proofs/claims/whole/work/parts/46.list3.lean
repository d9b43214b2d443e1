/-! one more element: an object of any class, outside of the list's cells -/
theorem any_moved {E : String} {u U : State} {H : Heap} {a : Nat} (hvm : u.vm.Alike U.vm) (h : va_Any E u H a) : va_Any E U H a := by
  obtain ⟨cell, h1, h2, ⟨k, h3⟩, h4⟩ := h
  obtain ⟨k', hk', -⟩ := hvm.2.2 _ _ h3
  refine ⟨cell, h1, h2, ⟨k', hk'⟩, fun comp hc => ?_⟩
  rw [hvm.findClass] at hc
  rw [hvm.assignable]
  exact h4 comp hc
theorem any_kept {E : String} {U : State} {H H1 : Heap} {a : Nat} (h : va_Any E U H a) (hq : H1[a]? = H[a]?) : va_Any E U H1 a := by
  obtain ⟨cell, h1, h2⟩ := h
  exact ⟨cell, hq.trans h1, h2⟩
def gPa (cl : List vw_C) (D : va_G) (tys : List (ClassId × FieldType)) (av : List Value) (w : va_W) (sz eD el : Nat) : Array Value → State → Prop := va_Pc av (fun U => U.heap.size = sz ∧ va_P D cl w U.heap ∧ va_K D cl tys U ∧ va_D (fun _ => True) w ∧ lzE eD (va_A w sz) U U.heap ∧ va_Any "java/lang/Object" U U.heap el ∧ ¬ va_A w sz el)
theorem gPa_blind {cl : List vw_C} {D : va_G} {tys : List (ClassId × FieldType)} {av : List Value} {w : va_W} {sz eD el : Nat} : FrameBlind (gPa cl D tys av w sz eD el) := fun a U g mk q => by
  obtain ⟨q0, q1, qP, qK, qD, qZ, qA, qN⟩ := q
  exact ⟨q0, q1, qP, va_K.moved (u := U) (U := U.calling g mk a) (Vm.Alike.refl U.vm) qK, qD, lzE.same (u := U) (U := U.calling g mk a) rfl qZ, any_moved (u := U) (U := U.calling g mk a) (Vm.Alike.refl U.vm) qA, qN⟩
theorem a_preV {s : State} {H : Heap} {cl : List vw_C} {D : va_G} {tys : List (ClassId × FieldType)} {w : va_W} {A : Nat → Prop} {As : List Value} {C : String} {b : Addr} {locs : List Loc} {eD el : Nat} (hr : ∃ cell : Cell, H[b]? = some cell ∧ cell.vm.isStatics = false ∧ s.vm.findClass C = some cell.cls) (hz : lzE eD A s s.heap) (hS : va_S A s.heap H locs) (hF : ∀ q, va_A w H.size q → A q) (hK : va_K D cl tys s) (hP : va_P D cl w H) (hD : va_D A w) (hany : va_Any "java/lang/Object" s H el) (hne : ¬ va_A w H.size el) : PreV s H C b (gPa cl D tys (.ref b :: As) w H.size eD el) As :=
  ⟨gPa_blind, hr, fun U hU hW => ⟨rfl, by rw [hU], by rw [hU]; exact hP, va_K.moved hW.alike hK, hD.weaken (fun _ _ _ _ => trivial), by rw [hU]; exact (lz_at hz hS hF).moved hW, by rw [hU]; exact any_moved hW.alike hany, hne⟩⟩
section NR
variable {p : Program} {l : Launch} {e : Env} {R : Room} {s : State} {m : MethodId} {args : Array Value} {below : List Frame} {meth : Method} {c : Code} {H : Heap} {locs : List Loc} {cells slots mc ms : Nat} {Q : State → Prop}
variable {cc : ByteArray} {pc : Nat} {ls : Array Slot} {rest st0 : List Value} {D : va_G} {cl : List vw_C} {A : Nat → Prop} {a : Nat} {tys : List (ClassId × FieldType)} {L L1 : List va_W} {Y Z : va_W} {H0 : Heap} {ar : Array Value}
theorem fa_astqM (hx : p.tables.exec = Jvm.exec) (hb : c.code = cc) (hK : va_K D cl tys s) (hP : va_P D cl (fl L) H) (hD : va_D A (fl L)) (hS : va_S A H0 H locs) (kw q0 t0 : Nat) (hL : L[kw]? = some Y) {E : String} {cA : ClassId} {n v k : Nat} {f : Nat → Option Nat} (ha : Y[q0]? = some (a, .inl (cA, n, .inr (.inr (.inr (.inr f)))))) (ht : tys[t0]? = some (cA, .object E)) (hr : va_Any E s H v) (hk : k < n) (hn : n < 2 ^ 31) (hdg : decode cc pc = .ok (.aastore, 1))
    (kk : ∀ (H1 : Heap) (locs1 : List Loc), va_P D cl (fl (L.set kw (Y.set q0 (a, .inl (cA, n, .inr (.inr (.inr (.inr (va_up f k (some v)))))))))) H1 → va_D A (fl (L.set kw (Y.set q0 (a, .inl (cA, n, .inr (.inr (.inr (.inr (va_up f k (some v)))))))))) → va_S A H0 H1 locs1 → W p l e R s m args below meth c H1 locs1 cells slots Q (F0 m (pc + 1) ls rest)) : W p l e R s m args below meth c H locs cells slots Q (F0 m pc ls (.ref v :: .int (nI k) :: .ref a :: rest)) := by
  obtain ⟨i, h1, h2⟩ := fl_at hL ha
  refine va_astqM hx hb hK hP hD hS i t0 h1 ht hr (vp_in_nI hk hn) hdg fun H1 locs1 h4 h5 h6 => ?_
  rw [nI_clamp (Nat.lt_trans hk hn), h2] at h4 h5
  exact kk H1 locs1 h4 h5 h6
/-- a call over all worlds that makes cells: what is found has the type S -/
theorem g_callvSA {S : Type} {post : S → Prop} {W1 : S → va_W} (hr : va_Run p l e R s m args below meth c H locs cells slots mc ms (F0 m pc ls st0) rest (va_Qv post (fun u t => gB cl D tys (va_A (fl L) H.size) (W1 u) t) (va_A (fl L) H.size) ar) (va_A (fl L) H.size)) (hS : va_S A s.heap H locs) (hA : ∀ q, s.heap.size ≤ q → A q) (hD : va_D A (fl L)) (kk : ∀ (u : S) (H1 : Heap) (locs1 : List Loc), post u → va_P D cl (W1 u) H1 → va_D A (W1 u) → va_S A s.heap H1 locs1 → (∀ q : Nat, q < H.size → ¬ va_A (fl L) H.size q → H1[q]? = H[q]?) → W p l e R s m args below meth c H1 locs1 (cells + mc) (slots + ms) Q (F0 m (pc + 3) ls rest)) : W p l e R s m args below meth c H locs cells slots Q (F0 m pc ls st0) := by
  have hF := fl_freeA hD hS hA
  refine va_callv hr hS (fun q _ h => hF q h) hF (fun u t H1 locs1 ht hvm hw hB hz hk hS1 => ?_)
  exact kk u H1 locs1 hw (ht ▸ hB.1) (hB.2.2.weaken fun _ _ _ h => hF _ h) hS1 hk
end NR
