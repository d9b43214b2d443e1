/-! pools: worlds of many alike objects; lists over them; arrays of arrays -/
def va_AOA (t : FieldType) (U : State) : Prop := (Cond.arrayOver (.array t)).before #[] U = true
theorem va_AOA.use {t : FieldType} {A : Array Value} {U : State} (h : va_AOA t U) : (Cond.arrayOver (.array t)).before A U = true := over_moved (Vm.Alike.refl U.vm) h
/-- f, but v at every address of l -/
def vr_up {α : Type} (f : Nat → α) (l : List Nat) (v : α) : Nat → α := fun a => if a ∈ l then v else f a
theorem vr_up_in {α : Type} {f : Nat → α} {l : List Nat} {v : α} {a : Nat} (h : a ∈ l) : vr_up f l v a = v := if_pos h
theorem vr_up_ne {α : Type} {f : Nat → α} {l : List Nat} {v : α} {a : Nat} (h : a ∉ l) : vr_up f l v a = f a := if_neg h
theorem vr_rows {L l : List Nat} {f : Nat → va_E} {e : va_E} (h : ∀ a, a ∈ l → a ∉ L) : va_pl L f ++ l.map (fun a => (a, e)) = va_pl (L ++ l) (vr_up f l e) := by
  unfold va_pl
  rw [List.map_append]
  congr 1
  · apply List.map_congr_left
    intro a ha
    rw [vr_up_ne (fun q => h a q ha)]
  · apply List.map_congr_left
    intro a ha
    rw [vr_up_in ha]
theorem vr_lay {X rows : va_W} {x : Nat × va_E} {pl : va_W} {D : va_G} {cl : List vw_C} {H : Heap} (hP : va_P D cl (((X ++ pl) ++ [x]) ++ rows) H) : va_P D cl ((X ++ [x]) ++ (pl ++ rows)) H := by
  rw [List.append_assoc (X ++ pl)] at hP
  have h := va_P.swap hP
  rw [← List.append_assoc X] at h
  have h2 := va_P.swap h
  rw [List.append_assoc (X ++ [x])] at h2
  exact h2
theorem vr_layD {X rows : va_W} {x : Nat × va_E} {pl : va_W} {A : Nat → Prop} (hD : va_D A (((X ++ pl) ++ [x]) ++ rows)) : va_D A ((X ++ [x]) ++ (pl ++ rows)) := by
  rw [List.append_assoc (X ++ pl)] at hD
  have h := va_D.swap hD
  rw [← List.append_assoc X] at h
  have h2 := va_D.swap h
  rw [List.append_assoc (X ++ [x])] at h2
  exact h2
theorem vr_outer (c : ClassId) (N h0 : Nat) : ∀ i : Nat, Jvm.Free.Multi.outerC c N h0 i = arrV c N (fun j => va_rf (if j < i then some (h0 + 1 + j) else none))
  | 0 => by
    show ({ cls := c, slots := Array.replicate N .null, vm := .none } : Cell) = _
    rw [arrV_new]
    refine congrArg (arrV c N) (funext fun j => ?_)
    simp [va_rf]
  | i + 1 => by
    show (Jvm.Free.Multi.outerC c N h0 i).setSlot i (.ref (h0 + 1 + i)) = _
    rw [vr_outer c N h0 i, arrV_store]
    refine congrArg (arrV c N) (funext fun j => ?_)
    by_cases e : j = i
    · subst e
      simp [updV, va_rf]
    · by_cases h : j < i
      · simp [updV, e, h, Nat.lt_succ_of_lt h]
      · simp [updV, e, h, show ¬ j < i + 1 by omega]
section VGM
variable {p : Program} {l : Launch} {e : Env} {R : Room} {s : State} {m : MethodId} {args : Array Value} {below : List Frame} {meth : Method} {c : Code} {H : Heap} {locs : List Loc} {cells slots : Nat} {Q : State → Prop}
variable {cc : ByteArray} {pc : Nat} {ls : Array Slot} {rest : List Value} {D : va_G} {cl : List vw_C} {A : Nat → Prop} {a : Nat} {tys : List (ClassId × FieldType)} {ws : va_W} {H0 : Heap}
theorem va_mna {X : va_W} {L : List Nat} {f : Nat → va_E} {cc : ByteArray} (hexec : p.tables.exec = Jvm.exec) (hb : c.code = cc) {own : String} {index : Nat} {ty : FieldType} {cy : ClassId} (hown : s.vm.findClass own = some m.cls) (hclink : (Cond.classLink own index ("[" ++ (FieldType.array ty).toString)).before args s = true) (hover : va_AOA ty s) (harr : (Cond.arrayClass ty).before args s = true) (hcy : s.vm.findClass (FieldType.array ty).toString = some cy)
    (hK : va_K D cl tys s) (hP : va_P D cl (X ++ va_pl L f) H) (hD : va_D A (X ++ va_pl L f)) (hS : va_S A H0 H locs) (hA : ∀ q, H0.size ≤ q → A q) {n k : Int32} {N' K' : Nat} {z : vp_A} (hn : ¬ n < 0) (hk : ¬ k < 0) (hN : n.toNatClampNeg = N') (hM : k.toNatClampNeg = K')
    (hb1 : N' * 4 ≤ 536870912) (hb2 : K' * componentBytes ty ≤ 536870912) (hb3 : K' ≤ 536870912) (hdf : fits ty (defaultValue ty) = true) (hdd : (defaultValue ty).isDefault = true) (hcells : cells + (1 + N') ≤ R.cells) (hslots : slots + (N' + N' * K') ≤ R.slots) (hz : ∀ c : ClassId, Jvm.Free.Multi.innerC c K' (defaultValue ty) = vp_cell c z) (hdg : decode cc pc = .ok (.multianewarray index 2, 4))
    (kk : ∀ (q : Nat) (r : Nat → Nat) (cA : ClassId) (H1 : Heap), (∀ i j : Nat, i < N' → j < N' → r i = r j → i = j) → (∀ i : Nat, i < N' → r i ∉ L) → va_K D cl (tys ++ [(cA, .array ty)]) s →
      va_P D cl ((X ++ [(q, .inl (cA, N', .inr (.inr (.inr (.inr (fun i => if i < N' then some (r i) else none))))))]) ++ va_pl (L ++ (List.range N').map r) (vr_up f ((List.range N').map r) (.inl (cy, z)))) H1 → va_D A ((X ++ [(q, .inl (cA, N', .inr (.inr (.inr (.inr (fun i => if i < N' then some (r i) else none))))))]) ++ va_pl (L ++ (List.range N').map r) (vr_up f ((List.range N').map r) (.inl (cy, z)))) → va_S A H0 H1 locs →
      W p l e R s m args below meth c H1 locs (cells + 1 + N') (slots + N' + N' * K') Q (F0 m (pc + 4) ls (.ref q :: rest))) : W p l e R s m args below meth c H locs cells slots Q (F0 m pc ls (.int k :: .int n :: rest)) := by
  subst hN
  subst hM
  intro T hT Xs
  obtain ⟨vm₁, cA, comp, -, fA, fC, hO, -, X', step⟩ := Xs.multianewarray2F hexec hown hclink (va_AOA.use hover) harr (g := F0 m pc ls (.int k :: .int n :: rest)) rfl (by rw [hb]; exact hdg) rfl hn hk hb1 hb2 hb3 hdf hdd hcells hslots
  have ec : some cy = some comp := hcy.symm.trans fC
  cases ec
  generalize hF : Jvm.Free.Multi.fill (T.setVm vm₁) cA cy n.toNatClampNeg k.toNatClampNeg (defaultValue ty) n.toNatClampNeg = F at X' step
  have hTh : (T.setVm vm₁).heap = H := hT
  obtain ⟨f1, f2, -, -⟩ := Jvm.Free.Multi.fill_facts (T.setVm vm₁) cA cy n.toNatClampNeg k.toNatClampNeg (defaultValue ty) n.toNatClampNeg
  rw [hF, hTh] at f1 f2
  have hold : ∀ x : Nat, x < H.size → F.heap[x]? = H[x]? := fun x hx => by
    have := Jvm.Free.Multi.fill_old (T.setVm vm₁) cA cy n.toNatClampNeg k.toNatClampNeg (defaultValue ty) (a := x) (by rw [hTh]; exact hx) n.toNatClampNeg
    rw [hF, hTh] at this
    exact this
  have hrow : ∀ j : Nat, j < n.toNatClampNeg → F.heap[H.size + 1 + j]? = some (vp_cell cy z) := fun j hj => by
    have := Jvm.Free.Multi.fill_inner (T.setVm vm₁) cA cy n.toNatClampNeg k.toNatClampNeg (defaultValue ty) n.toNatClampNeg j hj
    rw [hF, hTh, hz] at this
    exact this
  have hout : Jvm.Free.Multi.outerC cA n.toNatClampNeg H.size n.toNatClampNeg = vp_cell cA (n.toNatClampNeg, .inr (.inr (.inr (.inr (fun i => if i < n.toNatClampNeg then some (H.size + 1 + i) else none))))) := by
    rw [vp_cell_q]
    exact vr_outer cA n.toNatClampNeg H.size n.toNatClampNeg
  rw [hout] at f2
  have hlt : ∀ a, a ∈ L → a < H.size := fun a ha => by
    obtain ⟨k9, hk9⟩ := va_pl_get (X := X) (f := f) ha
    exact (hP k9 _ hk9).lt
  have hnl : ∀ i : Nat, i < n.toNatClampNeg → H.size + 1 + i ∉ L := fun i _ h => by
    have := hlt _ h
    omega
  have hnm : ∀ a, a ∈ (List.range n.toNatClampNeg).map (fun i => H.size + 1 + i) → a ∉ L := fun a ha h => by
    obtain ⟨i, -, rfl⟩ := List.mem_map.mp ha
    have := hlt _ h
    omega
  have hP0 : va_P D cl (X ++ va_pl L f) F.heap := hP.kept (fun k9 x hx => hold x.1 ((hP k9 x hx).lt))
  have hP1 : va_P D cl ((X ++ va_pl L f) ++ [(H.size, .inl (cA, n.toNatClampNeg, .inr (.inr (.inr (.inr (fun i => if i < n.toNatClampNeg then some (H.size + 1 + i) else none))))))]) F.heap := hP0.app (fun k9 x hx => by
    have h0 : k9 < 1 := (List.getElem?_eq_some_iff.mp hx).1
    rw [show k9 = 0 by omega] at hx
    cases hx
    exact f2)
  have hP2 : va_P D cl (((X ++ va_pl L f) ++ [(H.size, .inl (cA, n.toNatClampNeg, .inr (.inr (.inr (.inr (fun i => if i < n.toNatClampNeg then some (H.size + 1 + i) else none))))))]) ++ ((List.range n.toNatClampNeg).map (fun i => H.size + 1 + i)).map (fun a => (a, .inl (cy, z)))) F.heap := hP1.app (fun k9 x hx => by
    obtain ⟨a, ha, rfl⟩ := List.mem_map.mp (List.mem_of_getElem? hx)
    obtain ⟨i, hi, rfl⟩ := List.mem_map.mp ha
    exact hrow i (List.mem_range.mp hi))
  have hD2 : va_D A (((X ++ va_pl L f) ++ [(H.size, .inl (cA, n.toNatClampNeg, .inr (.inr (.inr (.inr (fun i => if i < n.toNatClampNeg then some (H.size + 1 + i) else none))))))]) ++ ((List.range n.toNatClampNeg).map (fun i => H.size + 1 + i)).map (fun a => (a, .inl (cy, z)))) := by
    have hD1 := hD.push (e := .inl (cA, n.toNatClampNeg, .inr (.inr (.inr (.inr (fun i => if i < n.toNatClampNeg then some (H.size + 1 + i) else none)))))) hP rfl (hA _ hS.1)
    generalize hW1 : (X ++ va_pl L f) ++ [(H.size, .inl (cA, n.toNatClampNeg, .inr (.inr (.inr (.inr (fun i => if i < n.toNatClampNeg then some (H.size + 1 + i) else none))))))] = W1 at hD1 hP1 ⊢
    have hle : ∀ (k9 : Nat) (x : Nat × va_E), W1[k9]? = some x → x.1 ≤ H.size := fun k9 x hx => by
      rw [← hW1] at hx
      by_cases hl : k9 < (X ++ va_pl L f).length
      · rw [List.getElem?_append_left hl] at hx
        exact Nat.le_of_lt ((hP k9 x hx).lt)
      · rw [List.getElem?_append_right (by omega)] at hx
        have h0 : k9 - (X ++ va_pl L f).length < 1 := (List.getElem?_eq_some_iff.mp hx).1
        rw [show k9 - (X ++ va_pl L f).length = 0 by omega] at hx
        cases hx
        exact Nat.le_refl _
    have hr : ∀ (k9 : Nat) (x : Nat × va_E), (((List.range n.toNatClampNeg).map (fun i => H.size + 1 + i)).map (fun a => ((a, .inl (cy, z)) : Nat × va_E)))[k9]? = some x → x.1 = H.size + 1 + k9 := fun k9 x hx => by
      rw [List.getElem?_map, List.getElem?_map] at hx
      by_cases h9 : k9 < n.toNatClampNeg
      · rw [List.getElem?_range h9] at hx
        cases hx
        rfl
      · have hn0 : (List.range n.toNatClampNeg)[k9]? = none := List.getElem?_eq_none (by rw [List.length_range]; omega)
        rw [hn0] at hx
        cases hx
    refine ⟨fun i j x y hi hj hxy => ?_, fun k9 x hx => ?_⟩
    · by_cases h1 : i < W1.length <;> by_cases h2 : j < W1.length
      · rw [List.getElem?_append_left h1] at hi
        rw [List.getElem?_append_left h2] at hj
        exact hD1.1 i j x y hi hj hxy
      · rw [List.getElem?_append_left h1] at hi
        rw [List.getElem?_append_right (by omega)] at hj
        have := hle _ _ hi
        have := hr _ _ hj
        omega
      · rw [List.getElem?_append_right (by omega)] at hi
        rw [List.getElem?_append_left h2] at hj
        have := hle _ _ hj
        have := hr _ _ hi
        omega
      · rw [List.getElem?_append_right (by omega)] at hi hj
        have := hr _ _ hi
        have := hr _ _ hj
        omega
    · by_cases h1 : k9 < W1.length
      · rw [List.getElem?_append_left h1] at hx
        exact hD1.2 k9 x hx
      · rw [List.getElem?_append_right (by omega)] at hx
        have := hr _ _ hx
        exact hA _ (by have := hS.1; omega)
  have hAr : ArrOfT s cA (.array ty) := fun N9 z9 => by
    obtain ⟨-, k9, hk9, cm9, hkk9⟩ := (hO 0 0 0).1
    exact ⟨(fun q hq => by cases hq), k9, hk9, cm9, hkk9⟩
  have hK2 : va_K D cl (tys ++ [(cA, .array ty)]) s := ⟨hK.1, fun k9 x hx => by
    by_cases hl : k9 < tys.length
    · rw [List.getElem?_append_left hl] at hx
      exact hK.2 k9 x hx
    · rw [List.getElem?_append_right (by omega)] at hx
      have h0 : k9 - tys.length < 1 := (List.getElem?_eq_some_iff.mp hx).1
      rw [show k9 - tys.length = 0 by omega] at hx
      cases hx
      exact ⟨hAr, fA⟩⟩
  obtain ⟨t, a1, b1⟩ := kk H.size (fun i => H.size + 1 + i) cA F.heap (fun i j _ _ h => by have h9 : H.size + 1 + i = H.size + 1 + j := h; omega) hnl hK2 (by rw [← vr_rows hnm]; exact vr_lay hP2) (by rw [← vr_rows hnm]; exact vr_layD hD2) ⟨by rw [f1]; have := hS.1; omega, fun x h1 h2 => (hold x (Nat.lt_of_lt_of_le h1 hS.1)).trans (hS.2.1 x h1 h2), hS.2.2⟩ F rfl X'
  refine ⟨t, step t ?_, b1⟩
  have e : T.heap.size = H.size := by rw [hT]
  rw [e]
  exact a1
end VGM

def gPrz (cl : List vw_C) (D : va_G) (tys : List (ClassId × FieldType)) (av : List Value) (w : va_W) : Array Value → State → Prop := va_Pc av (fun U => va_P D cl w U.heap ∧ va_K D cl tys U ∧ zW U)
theorem gPrz_blind {cl : List vw_C} {D : va_G} {tys : List (ClassId × FieldType)} {av : List Value} {w : va_W} : FrameBlind (gPrz cl D tys av w) := fun a U g mk q => by
  obtain ⟨q0, qP, qK, qZ⟩ := q
  exact ⟨q0, qP, va_K.moved (u := U) (U := U.calling g mk a) (Vm.Alike.refl U.vm) qK, zW.same (u := U) (U := U.calling g mk a) rfl qZ⟩
section RZ
variable {s : State} {H : Heap} {cl : List vw_C} {D : va_G} {tys : List (ClassId × FieldType)} {w : va_W} {As : List Value} {C : String} {b : Addr}
theorem rz_preS (hzw : zW s) (hK : va_K D cl tys s) (hP : va_P D cl w H) : PreS s H (gPrz cl D tys As w) As := ⟨gPrz_blind, fun U hU hW => ⟨rfl, by rw [hU]; exact hP, va_K.moved hW.alike hK, hzw.warm hW⟩⟩
theorem rz_preV (hzw : zW s) (hr : ∃ cell : Cell, H[b]? = some cell ∧ cell.vm.isStatics = false ∧ s.vm.findClass C = some cell.cls) (hK : va_K D cl tys s) (hP : va_P D cl w H) : PreV s H C b (gPrz cl D tys (.ref b :: As) w) As := ⟨gPrz_blind, hr, fun U hU hW => ⟨rfl, by rw [hU]; exact hP, va_K.moved hW.alike hK, hzw.warm hW⟩⟩
end RZ
/-- n worlds, one behind the other -/
def pw (n : Nat) (g : Nat → va_W) : va_W := fl ((List.range n).map g)
def pwR (k n : Nat) (g : Nat → va_W) : va_W := fl ((List.range (n - (k + 1))).map (fun i => g (k + 1 + i)))
theorem pw_succ (n : Nat) (g : Nat → va_W) : pw (n + 1) g = pw n g ++ g n := by
  unfold pw
  rw [List.range_succ, List.map_append]
  show List.flatten _ = _
  rw [List.flatten_append]
  show _ ++ (g n ++ []) = _
  rw [List.append_nil]
theorem pw_cut {k n : Nat} {g : Nat → va_W} (hk : k < n) : pw n g = pw k g ++ (g k ++ pwR k n g) := by
  obtain ⟨r, rfl⟩ : ∃ r, n = k + 1 + r := ⟨n - (k + 1), by omega⟩
  have e : k + 1 + r - (k + 1) = r := by omega
  rw [← List.append_assoc, ← pw_succ]
  unfold pw pwR
  rw [e, List.range_add, List.map_append, List.map_map]
  show List.flatten _ = _
  rw [List.flatten_append]
  rfl
theorem pw_congr {n : Nat} {g g' : Nat → va_W} (h : ∀ i, i < n → g' i = g i) : pw n g' = pw n g := by
  unfold pw
  exact congrArg fl (List.map_congr_left fun i hi => h i (List.mem_range.mp hi))
theorem pwR_congr {k n : Nat} {g g' : Nat → va_W} (h : ∀ i, k < i → g' i = g i) : pwR k n g' = pwR k n g := by
  unfold pwR
  exact congrArg fl (List.map_congr_left fun i _ => h _ (by omega))
theorem zm (L1 L2 : List va_W) {k n : Nat} {g : Nat → va_W} (hk : k < n) : fl (L1 ++ pw n g :: L2) = fl (L1 ++ pw k g :: g k :: pwR k n g :: L2) := by
  show List.flatten _ = List.flatten _
  simp only [List.flatten_append, List.flatten_cons, pw_cut hk, List.append_assoc]
theorem uzm (L1 L2 : List va_W) {k n : Nat} {g g' : Nat → va_W} {y : va_W} (hk : k < n) (hx : g' k = y) (hne : ∀ i, i ≠ k → g' i = g i) : fl (L1 ++ pw k g :: y :: pwR k n g :: L2) = fl (L1 ++ pw n g' :: L2) := by
  rw [zm L1 L2 hk, hx, pw_congr (n := k) (g := g) (g' := g') (fun i hi => hne i (by omega)), pwR_congr (fun i hi => hne i (by omega))]
theorem pw_push {n : Nat} {g g' : Nat → va_W} {y : va_W} (hx : g' n = y) (hne : ∀ i, i < n → g' i = g i) : pw (n + 1) g' = pw n g ++ y := by rw [pw_succ, hx, pw_congr hne]
theorem mvD {A : Nat → Prop} {X P Z Y : va_W} (h : va_D A (X ++ (P ++ (Z ++ Y)))) : va_D A (X ++ ((P ++ Y) ++ Z)) := by
  have h1 := dD_r h
  have h2 := dD_r h1
  refine dD_mk (dD_l h) (dD_mk (dD_mk (dD_l h1) (dD_r h2) fun a ha b hb => dD_x h1 ha (List.mem_append.mpr (Or.inr hb))) (dD_l h2) fun a ha b hb => ?_) fun a ha b hb => ?_
  · rcases List.mem_append.mp ha with h3 | h3
    · exact dD_x h1 h3 (List.mem_append.mpr (Or.inl hb))
    · exact fun e => dD_x h2 hb h3 e.symm
  · refine dD_x h ha ?_
    rcases List.mem_append.mp hb with h3 | h3
    · rcases List.mem_append.mp h3 with h3 | h3
      · exact List.mem_append.mpr (Or.inl h3)
      · exact List.mem_append.mpr (Or.inr (List.mem_append.mpr (Or.inr h3)))
    · exact List.mem_append.mpr (Or.inr (List.mem_append.mpr (Or.inl h3)))
theorem mvP {D : va_G} {cl : List vw_C} {H : Heap} {X P Z Y : va_W} (h : va_P D cl (X ++ (P ++ (Z ++ Y))) H) : va_P D cl (X ++ ((P ++ Y) ++ Z)) H := fl_mem.mpr fun q hq => fl_mem.mp h q (by
  simp only [List.mem_append] at hq ⊢
  rcases hq with h | (h | h) | h
  · exact Or.inl h
  · exact Or.inr (Or.inl h)
  · exact Or.inr (Or.inr (Or.inr h))
  · exact Or.inr (Or.inr (Or.inl h)))
theorem fl_lay (L1 L2 : List va_W) (P Y : va_W) : fl (L1 ++ P :: (L2 ++ [Y])) = fl L1 ++ (P ++ (fl L2 ++ Y)) := by
  show List.flatten _ = _
  simp only [List.flatten_append, List.flatten_cons, List.flatten_nil, List.append_nil]
theorem fl_lay2 (L1 L2 : List va_W) (P : va_W) : fl (L1 ++ P :: L2) = fl L1 ++ (P ++ fl L2) := by
  show List.flatten _ = _
  simp only [List.flatten_append, List.flatten_cons]
theorem pshD (L1 L2 : List va_W) {A : Nat → Prop} {P Y P' : va_W} (e : P' = P ++ Y) (h : va_D A (fl (L1 ++ P :: (L2 ++ [Y])))) : va_D A (fl (L1 ++ P' :: L2)) := by
  rw [fl_lay] at h
  rw [fl_lay2, e]
  exact mvD h
theorem pshP (L1 L2 : List va_W) {D : va_G} {cl : List vw_C} {H : Heap} {P Y P' : va_W} (e : P' = P ++ Y) (h : va_P D cl (fl (L1 ++ P :: (L2 ++ [Y]))) H) : va_P D cl (fl (L1 ++ P' :: L2)) H := by
  rw [fl_lay] at h
  rw [fl_lay2, e]
  exact mvP h
/-! lists of n elements, with or without places -/
def rfO (n : Nat) (pa : Nat → Nat) : Nat → Option Nat := fun i => if i < n then some (pa i) else none
theorem rfO_at {n : Nat} {pa : Nat → Nat} {i : Nat} (h : i < n) : rfO n pa i = some (pa i) := if_pos h
theorem rfO_s (n : Nat) (pa : Nat → Nat) (el : Nat) : va_up (rfO n pa) n (some el) = rfO (n + 1) (updN pa n el) := by
  funext i
  simp only [va_up, rfO, updN]
  by_cases h : i = n
  · rw [if_pos h, if_pos (by omega), if_pos h]
  · rw [if_neg h]
    by_cases h2 : i < n
    · rw [if_pos h2, if_pos (by omega), if_neg h]
    · rw [if_neg h2, if_neg (by omega)]
theorem rfO_0 (pa : Nat → Nat) : (fun _ => none) = rfO 0 pa := by funext i; simp [rfO]
def wLq (kC : Nat → ClassId) (eD h : Nat) (md : Int32) (x n : Nat) (pa : Nat → Nat) : va_W := match n with
  | 0 => wLo h md eD 0
  | m + 1 => wL1 kC h md x (m + 1) (rfO (m + 1) pa)
theorem wLq_at (kC : Nat → ClassId) (eD h : Nat) (md : Int32) (x n : Nat) (pa : Nat → Nat) : ∃ fs, (wLq kC eD h md x n pa)[0]? = some (h, .inr (8, fs)) := by
  cases n
  · exact ⟨_, rfl⟩
  · exact ⟨_, rfl⟩
theorem c_Lq_size (l : Launch) (D : va_G) (kC : Nat → ClassId) (eD h : Nat) (md : Int32) (x n : Nat) (pa : Nat → Nat) : Met l y_L_size w_L_size ({ frames := 0, cells := 0, slots := 0, locals := 0 } : Room) (gPr cls D (tyL kC) [.ref h] (fl [(wLq kC eD h md x n pa)])) (vp_Si (fun r => r = nI n)) 0 0 (fun _ => False) := by
  cases n with
  | zero => exact c_L_size l D kC h md eD 0
  | succ n => exact c_L_size1 l D kC h md x (n + 1) _
theorem c_Lq_get (l : Launch) (D : va_G) (kC : Nat → ClassId) (eD h : Nat) (md : Int32) (x n : Nat) (pa : Nat → Nat) (i : Nat) (hi : i < n) (hn : n ≤ 10) : Met l y_L_get w_L_get ({ frames := 2, cells := 0, slots := 0, locals := 43 } : Room) (gPr cls D (tyL kC) [.ref h, .int (nI i)] (fl [(wLq kC eD h md x n pa)])) (va_Sq (fun r => r = some (pa i))) 0 0 (fun _ => False) := by
  cases n with
  | zero => omega
  | succ n =>
    have h := c_L_get1 l D kC h md x (n + 1) (rfO (n + 1) pa) i hi hn
    rw [rfO_at hi] at h
    exact h
theorem c_Lq_add (l : Launch) (D : va_G) (kC : Nat → ClassId) (eD h : Nat) (md : Int32) (x n : Nat) (pa : Nat → Nat) (el : Nat) (sz : Nat) (hn : n < 10) : Met l y_L_add w_L_add ({ frames := 4, cells := 1, slots := 10, locals := 84 } : Room) (gPa cls D (tyL kC) [.ref h, .ref el] (fl [(wLq kC eD h md x n pa)]) sz eD el) (va_Qi (fun r (_ : Nat) => r = nI 1) (fun u t => gB cls D (tyL kC) (va_A (fl [(wLq kC eD h md x n pa)]) sz) (fl [(wLq kC eD h (md + nI 1) u (n + 1) (updN pa n el))]) t) (va_A (fl [(wLq kC eD h md x n pa)]) sz)) 1 10 (va_A (fl [(wLq kC eD h md x n pa)]) sz) := by
  cases n with
  | zero =>
    have h := c_L_addf l D kC h md eD el sz
    rw [rfO_0 pa, rfO_s] at h
    exact h
  | succ n =>
    have h := c_L_addm l D kC h md x (n + 1) (rfO (n + 1) pa) eD el sz hn
    rw [rfO_s] at h
    exact h
section PQ
variable {p : Program} {l : Launch} {e : Env} {R : Room} {s : State} {m : MethodId} {args : Array Value} {below : List Frame} {meth : Method} {c : Code} {H : Heap} {locs : List Loc} {cells slots mc ms : Nat} {Q : State → Prop}
variable {cc : ByteArray} {pc : Nat} {ls : Array Slot} {rest st0 : List Value} {D : va_G} {cl : List vw_C} {A : Nat → Prop} {a : Nat} {tys : List (ClassId × FieldType)} {L : List va_W} {Y : va_W} {H0 : Heap} {ar : Array Value} {free : Addr → Prop} {Qa : State → Outcome → State → Prop} {g : JFrame}
theorem runN (h : va_Run p l e R s m args below meth c H locs cells slots mc ms g rest Qa free) : CallRun p l e R s m args below meth c H locs cells slots mc ms g rest Qa free := fun T hT X => by
  obtain ⟨v, st₀, t, T', L, h0, X', hL, e1, -, hq, st⟩ := h T hT X
  exact ⟨v, st₀, t, T', L, h0, X', hL, e1, hq, st⟩
theorem fa_aldA (hx : p.tables.exec = Jvm.exec) (hb : c.code = cc) (hK : va_K D cl tys s) (hP : va_P D cl (fl L) H) (kw q0 t0 : Nat) (hL : L[kw]? = some Y) {cA : ClassId} {t : FieldType} {n k : Nat} {f : Nat → Option Nat} (ha : Y[q0]? = some (a, .inl (cA, n, .inr (.inr (.inr (.inr f)))))) (ht : tys[t0]? = some (cA, .array t)) (hk : k < n) (hn : n < 2 ^ 31) (hdg : decode cc pc = .ok (.aaload, 1)) (kk : W p l e R s m args below meth c H locs cells slots Q (F0 m (pc + 1) ls (va_rf (f k) :: rest))) : W p l e R s m args below meth c H locs cells slots Q (F0 m pc ls (.int (nI k) :: .ref a :: rest)) := by
  have hin : vp_in (nI k) n := vp_in_nI hk hn
  have e : (nI k).toNatClampNeg = k := nI_clamp (Nat.lt_trans hk hn)
  exact W.aald (v := va_rf (f k)) (ty := .array t) hx hb (fl_P hP kw hL q0 _ ha) ((hK.2 t0 _ ht).1 n (fun j => va_rf (f j))) rfl (fun q => by cases q) (by show ¬ (nI k < 0 ∨ (arrV _ _ _).slots.size ≤ _); rw [arrV_size]; exact hin) (by show (arrV _ _ _).slots[_]? = _; rw [e, arrV_read _ _ hk]) rfl rfl hdg kk
theorem pl_rows (N : Nat) (r : Nat → Nat) (z : va_E) (f : Nat → va_E) : va_pl ([] ++ (List.range N).map r) (vr_up f ((List.range N).map r) z) = pw N (fun i => [(r i, z)]) := by
  have h1 : ∀ l : List Nat, fl (l.map (fun i => [(r i, z)])) = l.map (fun i => (r i, z)) := fun l => by
    induction l with
    | nil => rfl
    | cons b l ih =>
      show [(r b, z)] ++ fl (l.map (fun i => [(r i, z)])) = _
      rw [ih]
      rfl
  unfold pw va_pl
  rw [h1, List.nil_append, List.map_map]
  exact List.map_congr_left fun i hi => by
    show (r i, vr_up f _ z (r i)) = (r i, z)
    rw [vr_up_in (List.mem_map.mpr ⟨i, hi, rfl⟩)]
theorem fv_mna (hx : p.tables.exec = Jvm.exec) (hb : c.code = cc) {own : String} {index : Nat} {ty : FieldType} (hown : s.vm.findClass own = some m.cls) (hclink : (Cond.classLink own index ("[" ++ (FieldType.array ty).toString)).before args s = true) (hover : va_AOA ty s) (harr : (Cond.arrayClass ty).before args s = true) (hK : va_K D cl tys s) (hP : va_P D cl (fl L) H) (hD : va_D A (fl L)) (hS : va_S A H0 H locs) (hA : ∀ q, H0.size ≤ q → A q)
    (t0 t1 : Nat) {kA kB : ClassId} (hp : ∀ C, ty ≠ .object C) (ht0 : tys[t0]? = some (kA, .array ty)) (ht1 : tys[t1]? = some (kB, ty)) {N K : Nat} {z : vp_A} (hN : N < 2 ^ 31) (hK31 : K < 2 ^ 31) (hb1 : N * 4 ≤ 536870912) (hb2 : K * componentBytes ty ≤ 536870912) (hb3 : K ≤ 536870912) (hdf : fits ty (defaultValue ty) = true) (hdd : (defaultValue ty).isDefault = true) (hcells : cells + (1 + N) ≤ R.cells) (hslots : slots + (N + N * K) ≤ R.slots) (hz : ∀ c : ClassId, Jvm.Free.Multi.innerC c K (defaultValue ty) = vp_cell c z) (hdg : decode cc pc = .ok (.multianewarray index 2, 4))
    (kk : ∀ (q : Nat) (r : Nat → Nat) (H1 : Heap), va_P D cl (fl (L ++ [[(q, .inl (kA, N, .inr (.inr (.inr (.inr (fun i => if i < N then some (r i) else none))))))], pw N (fun i => [(r i, .inl (kB, z))])])) H1 → va_D A (fl (L ++ [[(q, .inl (kA, N, .inr (.inr (.inr (.inr (fun i => if i < N then some (r i) else none))))))], pw N (fun i => [(r i, .inl (kB, z))])])) → va_S A H0 H1 locs →
      W p l e R s m args below meth c H1 locs (cells + 1 + N) (slots + N + N * K) Q (F0 m (pc + 4) ls (.ref q :: rest))) : W p l e R s m args below meth c H locs cells slots Q (F0 m pc ls (.int (nI K) :: .int (nI N) :: rest)) := by
  have hcy : s.vm.findClass (FieldType.array ty).toString = some kB := by
    have h := (hK.2 t1 _ ht1).2
    cases ty <;> first | exact absurd rfl (hp _) | exact h
  have e0 : fl L = fl L ++ va_pl [] (fun _ => .inl (kB, z)) := (List.append_nil _).symm
  rw [e0] at hP hD
  refine va_mna hx hb hown hclink hover harr hcy hK hP hD hS hA (nI_pos hN) (nI_pos hK31) (nI_clamp hN) (nI_clamp hK31) hb1 hb2 hb3 hdf hdd hcells hslots hz hdg fun q r cA H1 _ _ hK2 hP2 hD2 hS2 => ?_
  have h1 := (hK2.2 tys.length (cA, .array ty) (by rw [List.getElem?_append_right (Nat.le_refl _), Nat.sub_self]; rfl)).2
  have h2 := (hK.2 t0 _ ht0).2
  have ee : cA = kA := Option.some.inj (Eq.trans (Eq.symm h1) h2)
  subst ee
  rw [pl_rows] at hP2 hD2
  have e1 : fl (L ++ [[(q, .inl (cA, N, .inr (.inr (.inr (.inr (fun i => if i < N then some (r i) else none))))))], pw N (fun i => [(r i, .inl (kB, z))])]) = (fl L ++ [(q, .inl (cA, N, .inr (.inr (.inr (.inr (fun i => if i < N then some (r i) else none))))))]) ++ pw N (fun i => [(r i, .inl (kB, z))]) := by
    show List.flatten _ = _
    simp only [List.flatten_append, List.flatten_cons, List.flatten_nil, List.append_nil, List.append_assoc]
  rw [← e1] at hP2 hD2
  exact kk q r H1 hP2 hD2 hS2
end PQ
