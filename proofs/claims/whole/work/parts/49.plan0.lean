/-- the parts -/
def pQ (pa : Nat → Nat) (pki : Nat → Nat) (pag : Nat → Nat) (pse : Nat → Nat) (psa : Nat → Nat) (pdy : Nat → Nat) (pho : Nat → Int32) (ppe : Nat → Int32) (n : Nat) : va_W := pw n (fun i => wQ (pa i) (pki i) (pag i) (pse i) (psa i) (pdy i) (pho i) (ppe i))
def pQr (pa : Nat → Nat) (pki : Nat → Nat) (pag : Nat → Nat) (pse : Nat → Nat) (psa : Nat → Nat) (pdy : Nat → Nat) (pho : Nat → Int32) (ppe : Nat → Int32) (n k_ : Nat) : va_W := pwR k_ n (fun i => wQ (pa i) (pki i) (pag i) (pse i) (psa i) (pdy i) (pho i) (ppe i))
/-- the asks -/
def pA (aa : Nat → Nat) (anu : Nat → Nat) (apr : Nat → Nat) (ace : Nat → Nat) (ami : Nat → Nat) (aop : Nat → Int32) (n : Nat) : va_W := pw n (fun i => wA (aa i) (anu i) (apr i) (ace i) (ami i) (aop i))
def pAr (aa : Nat → Nat) (anu : Nat → Nat) (apr : Nat → Nat) (ace : Nat → Nat) (ami : Nat → Nat) (aop : Nat → Int32) (n k_ : Nat) : va_W := pwR k_ n (fun i => wA (aa i) (anu i) (apr i) (ace i) (ami i) (aop i))
/-- the jobs -/
def pJ (kC : Nat → ClassId) (ja : Nat → Nat) (jx : Nat → Nat) (jne : Nat → Nat → Nat) (n : Nat) : va_W := pw n (fun i => wJ kC (ja i) (jx i) (jne i))
def pJr (kC : Nat → ClassId) (ja : Nat → Nat) (jx : Nat → Nat) (jne : Nat → Nat → Nat) (n k_ : Nat) : va_W := pwR k_ n (fun i => wJ kC (ja i) (jx i) (jne i))
/-- a row of prices -/
def wF (kC : Nat → ClassId) (h : Nat) (f : Nat → Nat) : va_W := [(h, .inl (kC 1, 8, .inr (.inl (fun j => lN (f j)))))]
/-- the rows of prices -/
def pF (kC : Nat → ClassId) (rr : Nat → Nat) (fp : Nat → Nat → Nat) : va_W := pw 6 (fun i => wF kC (rr i) (fp i))
def pFc (kC : Nat → ClassId) (rr : Nat → Nat) (fp : Nat → Nat → Nat) (n : Nat) : va_W := pw n (fun i => wF kC (rr i) (fp i))
def pFr (kC : Nat → ClassId) (rr : Nat → Nat) (fp : Nat → Nat → Nat) (k_ : Nat) : va_W := pwR k_ 6 (fun i => wF kC (rr i) (fp i))
theorem q_recv {s : State} {H : Heap} {D : va_G} {tys : List (ClassId × FieldType)} {L : List va_W} {kC : Nat → ClassId} {eD h : Nat} {md : Int32} {x n : Nat} {pa : Nat → Nat} (hK : va_K D cls tys s) (hP : va_P D cls (fl L) H) (kw : Nat) (hL : L[kw]? = some (wLq kC eD h md x n pa)) : ∃ cell : Cell, H[h]? = some cell ∧ cell.vm.isStatics = false ∧ s.vm.findClass R_L = some cell.cls := by
  obtain ⟨fs, hf⟩ := wLq_at kC eD h md x n pa
  exact f_recv (ci := 8) (q0 := 0) hK hP kw hL rfl hf
theorem grp (L1 M L2 : List va_W) : fl (L1 ++ (M ++ L2)) = fl (L1 ++ fl M :: L2) := by
  show List.flatten _ = List.flatten _
  simp only [List.flatten_append, List.flatten_cons]
section GG
variable {p : Program} {l : Launch} {e : Env} {R : Room} {s : State} {m : MethodId} {args : Array Value} {below : List Frame} {meth : Method} {c : Code} {H : Heap} {locs : List Loc} {cells slots mc ms : Nat} {Q : State → Prop}
variable {pc : Nat} {ls : Array Slot} {rest st0 : List Value} {D : va_G} {cl : List vw_C} {A : Nat → Prop} {tys : List (ClassId × FieldType)} {L : List va_W} {Y : va_W} {a : Array Value}
theorem g_calliG {f : Int32} {Y1 : va_W} (k : Nat) (hr : va_Run p l e R s m args below meth c H locs cells slots mc ms (F0 m pc ls st0) rest (gQi cl D tys Y H.size f Y1 a) (va_A Y H.size)) (hS : va_S A s.heap H locs) (hA : ∀ q, s.heap.size ≤ q → A q) (hP : va_P D cl (fl L) H) (hD : va_D A (fl L)) (hL : L[k]? = some Y) (kk : ∀ (H1 : Heap) (locs1 : List Loc), va_P D cl (fl (L.set k Y1)) H1 → va_D A (fl (L.set k Y1)) → va_S A s.heap H1 locs1 → W p l e R s m args below meth c H1 locs1 (cells + mc) (slots + ms) Q (F0 m (pc + 3) ls (.int f :: rest))) : W p l e R s m args below meth c H locs cells slots Q (F0 m pc ls st0) := by
  have hF := fl_free hD hS hA k hL
  refine va_calli hr hS (fun q _ h => hF q h) hF (fun r u t H1 locs1 ht hvm hw hB hz hk hS1 => ?_)
  subst hw
  obtain ⟨h1, h2⟩ := fr_k hP hD k hL hk hF (ht ▸ hB.1) hB.2.2
  exact kk H1 locs1 h1 h2 hS1
theorem g_calliSG {S : Type} {post : Int32 → S → Prop} {Y1 : S → va_W} (k : Nat) (hr : va_Run p l e R s m args below meth c H locs cells slots mc ms (F0 m pc ls st0) rest (va_Qi post (fun u t => gB cl D tys (va_A Y H.size) (Y1 u) t) (va_A Y H.size) a) (va_A Y H.size)) (hS : va_S A s.heap H locs) (hA : ∀ q, s.heap.size ≤ q → A q) (hP : va_P D cl (fl L) H) (hD : va_D A (fl L)) (hL : L[k]? = some Y) (kk : ∀ (r : Int32) (u : S) (H1 : Heap) (locs1 : List Loc), post r u → va_P D cl (fl (L.set k (Y1 u))) H1 → va_D A (fl (L.set k (Y1 u))) → va_S A s.heap H1 locs1 → W p l e R s m args below meth c H1 locs1 (cells + mc) (slots + ms) Q (F0 m (pc + 3) ls (.int r :: rest))) : W p l e R s m args below meth c H locs cells slots Q (F0 m pc ls st0) := by
  have hF := fl_free hD hS hA k hL
  refine va_calli hr hS (fun q _ h => hF q h) hF (fun r u t H1 locs1 ht hvm hw hB hz hk hS1 => ?_)
  obtain ⟨h1, h2⟩ := fr_k hP hD k hL hk hF (ht ▸ hB.1) hB.2.2
  exact kk r u H1 locs1 hw h1 h2 hS1
theorem g_calllG {f : Int64} {Y1 : va_W} (k : Nat) (hr : va_Run p l e R s m args below meth c H locs cells slots mc ms (F0 m pc ls st0) rest (gQl cl D tys Y H.size f Y1 a) (va_A Y H.size)) (hS : va_S A s.heap H locs) (hA : ∀ q, s.heap.size ≤ q → A q) (hP : va_P D cl (fl L) H) (hD : va_D A (fl L)) (hL : L[k]? = some Y) (kk : ∀ (H1 : Heap) (locs1 : List Loc), va_P D cl (fl (L.set k Y1)) H1 → va_D A (fl (L.set k Y1)) → va_S A s.heap H1 locs1 → W p l e R s m args below meth c H1 locs1 (cells + mc) (slots + ms) Q (F0 m (pc + 3) ls (.long f :: rest))) : W p l e R s m args below meth c H locs cells slots Q (F0 m pc ls st0) := by
  have hF := fl_free hD hS hA k hL
  refine va_calll hr hS (fun q _ h => hF q h) hF (fun r u t H1 locs1 ht hvm hw hB hz hk hS1 => ?_)
  subst hw
  obtain ⟨h1, h2⟩ := fr_k hP hD k hL hk hF (ht ▸ hB.1) hB.2.2
  exact kk H1 locs1 h1 h2 hS1
theorem g_calllSG {S : Type} {post : Int64 → S → Prop} {Y1 : S → va_W} (k : Nat) (hr : va_Run p l e R s m args below meth c H locs cells slots mc ms (F0 m pc ls st0) rest (va_Ql post (fun u t => gB cl D tys (va_A Y H.size) (Y1 u) t) (va_A Y H.size) a) (va_A Y H.size)) (hS : va_S A s.heap H locs) (hA : ∀ q, s.heap.size ≤ q → A q) (hP : va_P D cl (fl L) H) (hD : va_D A (fl L)) (hL : L[k]? = some Y) (kk : ∀ (r : Int64) (u : S) (H1 : Heap) (locs1 : List Loc), post r u → va_P D cl (fl (L.set k (Y1 u))) H1 → va_D A (fl (L.set k (Y1 u))) → va_S A s.heap H1 locs1 → W p l e R s m args below meth c H1 locs1 (cells + mc) (slots + ms) Q (F0 m (pc + 3) ls (.long r :: rest))) : W p l e R s m args below meth c H locs cells slots Q (F0 m pc ls st0) := by
  have hF := fl_free hD hS hA k hL
  refine va_calll hr hS (fun q _ h => hF q h) hF (fun r u t H1 locs1 ht hvm hw hB hz hk hS1 => ?_)
  obtain ⟨h1, h2⟩ := fr_k hP hD k hL hk hF (ht ▸ hB.1) hB.2.2
  exact kk r u H1 locs1 hw h1 h2 hS1
theorem g_callvG {Y1 : va_W} (k : Nat) (hr : va_Run p l e R s m args below meth c H locs cells slots mc ms (F0 m pc ls st0) rest (gQv cl D tys Y H.size Y1 a) (va_A Y H.size)) (hS : va_S A s.heap H locs) (hA : ∀ q, s.heap.size ≤ q → A q) (hP : va_P D cl (fl L) H) (hD : va_D A (fl L)) (hL : L[k]? = some Y) (kk : ∀ (H1 : Heap) (locs1 : List Loc), va_P D cl (fl (L.set k Y1)) H1 → va_D A (fl (L.set k Y1)) → va_S A s.heap H1 locs1 → W p l e R s m args below meth c H1 locs1 (cells + mc) (slots + ms) Q (F0 m (pc + 3) ls (rest))) : W p l e R s m args below meth c H locs cells slots Q (F0 m pc ls st0) := by
  have hF := fl_free hD hS hA k hL
  refine va_callv hr hS (fun q _ h => hF q h) hF (fun u t H1 locs1 ht hvm hw hB hz hk hS1 => ?_)
  obtain ⟨h1, h2⟩ := fr_k hP hD k hL hk hF (ht ▸ hB.1) hB.2.2
  exact kk H1 locs1 h1 h2 hS1
theorem g_callvSG {S : Type} {post : S → Prop} {Y1 : S → va_W} (k : Nat) (hr : va_Run p l e R s m args below meth c H locs cells slots mc ms (F0 m pc ls st0) rest (va_Qv post (fun u t => gB cl D tys (va_A Y H.size) (Y1 u) t) (va_A Y H.size) a) (va_A Y H.size)) (hS : va_S A s.heap H locs) (hA : ∀ q, s.heap.size ≤ q → A q) (hP : va_P D cl (fl L) H) (hD : va_D A (fl L)) (hL : L[k]? = some Y) (kk : ∀ (u : S) (H1 : Heap) (locs1 : List Loc), post u → va_P D cl (fl (L.set k (Y1 u))) H1 → va_D A (fl (L.set k (Y1 u))) → va_S A s.heap H1 locs1 → W p l e R s m args below meth c H1 locs1 (cells + mc) (slots + ms) Q (F0 m (pc + 3) ls (rest))) : W p l e R s m args below meth c H locs cells slots Q (F0 m pc ls st0) := by
  have hF := fl_free hD hS hA k hL
  refine va_callv hr hS (fun q _ h => hF q h) hF (fun u t H1 locs1 ht hvm hw hB hz hk hS1 => ?_)
  obtain ⟨h1, h2⟩ := fr_k hP hD k hL hk hF (ht ▸ hB.1) hB.2.2
  exact kk u H1 locs1 hw h1 h2 hS1
end GG
abbrev b_LI_bitCount : ByteArray := prog_12_method_49_code
def y_LI_bitCount : MethodName := ⟨"java/lang/Integer", "bitCount", "(I)I"⟩
theorem d_LI_bitCount_0 : decode b_LI_bitCount 0 = .ok (.iload_n 0, 1) := by decide +kernel
theorem d_LI_bitCount_1 : decode b_LI_bitCount 1 = .ok (.iload_n 0, 1) := by decide +kernel
theorem d_LI_bitCount_2 : decode b_LI_bitCount 2 = .ok (.iconst 1, 1) := by decide +kernel
theorem d_LI_bitCount_3 : decode b_LI_bitCount 3 = .ok (.iushr, 1) := by decide +kernel
theorem d_LI_bitCount_4 : decode b_LI_bitCount 4 = .ok (.ldc_w 265, 3) := by decide +kernel
theorem d_LI_bitCount_7 : decode b_LI_bitCount 7 = .ok (.iand, 1) := by decide +kernel
theorem d_LI_bitCount_8 : decode b_LI_bitCount 8 = .ok (.isub, 1) := by decide +kernel
theorem d_LI_bitCount_9 : decode b_LI_bitCount 9 = .ok (.istore_n 0, 1) := by decide +kernel
theorem d_LI_bitCount_10 : decode b_LI_bitCount 10 = .ok (.iload_n 0, 1) := by decide +kernel
theorem d_LI_bitCount_11 : decode b_LI_bitCount 11 = .ok (.ldc_w 266, 3) := by decide +kernel
theorem d_LI_bitCount_14 : decode b_LI_bitCount 14 = .ok (.iand, 1) := by decide +kernel
theorem d_LI_bitCount_15 : decode b_LI_bitCount 15 = .ok (.iload_n 0, 1) := by decide +kernel
theorem d_LI_bitCount_16 : decode b_LI_bitCount 16 = .ok (.iconst 2, 1) := by decide +kernel
theorem d_LI_bitCount_17 : decode b_LI_bitCount 17 = .ok (.iushr, 1) := by decide +kernel
theorem d_LI_bitCount_18 : decode b_LI_bitCount 18 = .ok (.ldc_w 266, 3) := by decide +kernel
theorem d_LI_bitCount_21 : decode b_LI_bitCount 21 = .ok (.iand, 1) := by decide +kernel
theorem d_LI_bitCount_22 : decode b_LI_bitCount 22 = .ok (.iadd, 1) := by decide +kernel
theorem d_LI_bitCount_23 : decode b_LI_bitCount 23 = .ok (.istore_n 0, 1) := by decide +kernel
theorem d_LI_bitCount_24 : decode b_LI_bitCount 24 = .ok (.iload_n 0, 1) := by decide +kernel
theorem d_LI_bitCount_25 : decode b_LI_bitCount 25 = .ok (.iload_n 0, 1) := by decide +kernel
theorem d_LI_bitCount_26 : decode b_LI_bitCount 26 = .ok (.iconst 4, 1) := by decide +kernel
theorem d_LI_bitCount_27 : decode b_LI_bitCount 27 = .ok (.iushr, 1) := by decide +kernel
theorem d_LI_bitCount_28 : decode b_LI_bitCount 28 = .ok (.iadd, 1) := by decide +kernel
theorem d_LI_bitCount_29 : decode b_LI_bitCount 29 = .ok (.ldc_w 267, 3) := by decide +kernel
theorem d_LI_bitCount_32 : decode b_LI_bitCount 32 = .ok (.iand, 1) := by decide +kernel
theorem d_LI_bitCount_33 : decode b_LI_bitCount 33 = .ok (.istore_n 0, 1) := by decide +kernel
theorem d_LI_bitCount_34 : decode b_LI_bitCount 34 = .ok (.iload_n 0, 1) := by decide +kernel
theorem d_LI_bitCount_35 : decode b_LI_bitCount 35 = .ok (.iload_n 0, 1) := by decide +kernel
theorem d_LI_bitCount_36 : decode b_LI_bitCount 36 = .ok (.bipush 8, 2) := by decide +kernel
theorem d_LI_bitCount_38 : decode b_LI_bitCount 38 = .ok (.iushr, 1) := by decide +kernel
theorem d_LI_bitCount_39 : decode b_LI_bitCount 39 = .ok (.iadd, 1) := by decide +kernel
theorem d_LI_bitCount_40 : decode b_LI_bitCount 40 = .ok (.istore_n 0, 1) := by decide +kernel
theorem d_LI_bitCount_41 : decode b_LI_bitCount 41 = .ok (.iload_n 0, 1) := by decide +kernel
theorem d_LI_bitCount_42 : decode b_LI_bitCount 42 = .ok (.iload_n 0, 1) := by decide +kernel
theorem d_LI_bitCount_43 : decode b_LI_bitCount 43 = .ok (.bipush 16, 2) := by decide +kernel
theorem d_LI_bitCount_45 : decode b_LI_bitCount 45 = .ok (.iushr, 1) := by decide +kernel
theorem d_LI_bitCount_46 : decode b_LI_bitCount 46 = .ok (.iadd, 1) := by decide +kernel
theorem d_LI_bitCount_47 : decode b_LI_bitCount 47 = .ok (.istore_n 0, 1) := by decide +kernel
theorem d_LI_bitCount_48 : decode b_LI_bitCount 48 = .ok (.iload_n 0, 1) := by decide +kernel
theorem d_LI_bitCount_49 : decode b_LI_bitCount 49 = .ok (.bipush 63, 2) := by decide +kernel
theorem d_LI_bitCount_51 : decode b_LI_bitCount 51 = .ok (.iand, 1) := by decide +kernel
theorem d_LI_bitCount_52 : decode b_LI_bitCount 52 = .ok (.ireturn, 1) := by decide +kernel
def w_LI_bitCount : List Cond := .code y_LI_bitCount b_LI_bitCount 1 (some .int) :: ([.constant "java/lang/Integer" 265 1431655765, .constant "java/lang/Integer" 266 858993459, .constant "java/lang/Integer" 267 252645135])
theorem bc64 : ∀ i, i < 64 → ((((((((nI i) - ((((nI i).toUInt32 >>> ((nI 1).toUInt32 &&& Int32.toUInt32 31)).toInt32) &&& (nI 1431655765))) &&& (nI 858993459)) + (((((nI i) - ((((nI i).toUInt32 >>> ((nI 1).toUInt32 &&& Int32.toUInt32 31)).toInt32) &&& (nI 1431655765))).toUInt32 >>> ((nI 2).toUInt32 &&& Int32.toUInt32 31)).toInt32) &&& (nI 858993459))) + ((((((nI i) - ((((nI i).toUInt32 >>> ((nI 1).toUInt32 &&& Int32.toUInt32 31)).toInt32) &&& (nI 1431655765))) &&& (nI 858993459)) + (((((nI i) - ((((nI i).toUInt32 >>> ((nI 1).toUInt32 &&& Int32.toUInt32 31)).toInt32) &&& (nI 1431655765))).toUInt32 >>> ((nI 2).toUInt32 &&& Int32.toUInt32 31)).toInt32) &&& (nI 858993459))).toUInt32 >>> ((nI 4).toUInt32 &&& Int32.toUInt32 31)).toInt32)) &&& (nI 252645135)) + ((((((((nI i) - ((((nI i).toUInt32 >>> ((nI 1).toUInt32 &&& Int32.toUInt32 31)).toInt32) &&& (nI 1431655765))) &&& (nI 858993459)) + (((((nI i) - ((((nI i).toUInt32 >>> ((nI 1).toUInt32 &&& Int32.toUInt32 31)).toInt32) &&& (nI 1431655765))).toUInt32 >>> ((nI 2).toUInt32 &&& Int32.toUInt32 31)).toInt32) &&& (nI 858993459))) + ((((((nI i) - ((((nI i).toUInt32 >>> ((nI 1).toUInt32 &&& Int32.toUInt32 31)).toInt32) &&& (nI 1431655765))) &&& (nI 858993459)) + (((((nI i) - ((((nI i).toUInt32 >>> ((nI 1).toUInt32 &&& Int32.toUInt32 31)).toInt32) &&& (nI 1431655765))).toUInt32 >>> ((nI 2).toUInt32 &&& Int32.toUInt32 31)).toInt32) &&& (nI 858993459))).toUInt32 >>> ((nI 4).toUInt32 &&& Int32.toUInt32 31)).toInt32)) &&& (nI 252645135)).toUInt32 >>> ((nI 8).toUInt32 &&& Int32.toUInt32 31)).toInt32)) + (((((((((nI i) - ((((nI i).toUInt32 >>> ((nI 1).toUInt32 &&& Int32.toUInt32 31)).toInt32) &&& (nI 1431655765))) &&& (nI 858993459)) + (((((nI i) - ((((nI i).toUInt32 >>> ((nI 1).toUInt32 &&& Int32.toUInt32 31)).toInt32) &&& (nI 1431655765))).toUInt32 >>> ((nI 2).toUInt32 &&& Int32.toUInt32 31)).toInt32) &&& (nI 858993459))) + ((((((nI i) - ((((nI i).toUInt32 >>> ((nI 1).toUInt32 &&& Int32.toUInt32 31)).toInt32) &&& (nI 1431655765))) &&& (nI 858993459)) + (((((nI i) - ((((nI i).toUInt32 >>> ((nI 1).toUInt32 &&& Int32.toUInt32 31)).toInt32) &&& (nI 1431655765))).toUInt32 >>> ((nI 2).toUInt32 &&& Int32.toUInt32 31)).toInt32) &&& (nI 858993459))).toUInt32 >>> ((nI 4).toUInt32 &&& Int32.toUInt32 31)).toInt32)) &&& (nI 252645135)) + ((((((((nI i) - ((((nI i).toUInt32 >>> ((nI 1).toUInt32 &&& Int32.toUInt32 31)).toInt32) &&& (nI 1431655765))) &&& (nI 858993459)) + (((((nI i) - ((((nI i).toUInt32 >>> ((nI 1).toUInt32 &&& Int32.toUInt32 31)).toInt32) &&& (nI 1431655765))).toUInt32 >>> ((nI 2).toUInt32 &&& Int32.toUInt32 31)).toInt32) &&& (nI 858993459))) + ((((((nI i) - ((((nI i).toUInt32 >>> ((nI 1).toUInt32 &&& Int32.toUInt32 31)).toInt32) &&& (nI 1431655765))) &&& (nI 858993459)) + (((((nI i) - ((((nI i).toUInt32 >>> ((nI 1).toUInt32 &&& Int32.toUInt32 31)).toInt32) &&& (nI 1431655765))).toUInt32 >>> ((nI 2).toUInt32 &&& Int32.toUInt32 31)).toInt32) &&& (nI 858993459))).toUInt32 >>> ((nI 4).toUInt32 &&& Int32.toUInt32 31)).toInt32)) &&& (nI 252645135)).toUInt32 >>> ((nI 8).toUInt32 &&& Int32.toUInt32 31)).toInt32)).toUInt32 >>> ((nI 16).toUInt32 &&& Int32.toUInt32 31)).toInt32)) &&& (nI 63) = nI (szM i 6) := by decide +kernel
set_option maxHeartbeats 4000000 in
set_option maxRecDepth 100000 in
theorem c_LI_bc (l : Launch) (i : Nat) (hi64 : i < 64) : Met l y_LI_bitCount w_LI_bitCount ({ frames := 0, cells := 0, slots := 0, locals := 0 } : Room) (gP0 [.int (nI i)]) (vp_Si (fun r => r = nI (szM i 6))) 0 0 (fun _ => False) := by
  refine Met.ofW (cc := b_LI_bitCount) (maxL := 1) (ret := (some .int)) (by decide) rfl ?_
  intro p e s m args below meth c s₁ B hml hv
  obtain rfl := hv
  have hx := B.exec
  have hb := B.bytes
  have hr := B.returns
  have hts := atoms_spec (ws := w_LI_bitCount) B.pre
  have hown : s.vm.findClass R_LI = some m.cls := findClass_of_methodNamed B.named
  have hlocks := B.notSynchronized
  have hl := lv_entry ([.int (nI i)]) (n := 1) (Nat.le_of_ble_eq_true rfl)
  rw [lg_entry_eq]
  generalize (lg_sl ([.int (nI i)]) ++ List.replicate (1 - (lg_sl ([.int (nI i)])).length) Slot.unset).toArray = ls at hl ⊢
  have hl : lv_has ls 1 [(0, .int (nI i))] := hl
  refine lv_iload_n hx hb d_LI_bitCount_0 rfl (lv_at hl 0 rfl) ?_
  refine lv_iload_n hx hb d_LI_bitCount_1 rfl (lv_at hl 0 rfl) ?_
  refine lv_iconst (v := nI 1) hx hb d_LI_bitCount_2 (by decide) ?_
  refine lv_iushr hx hb d_LI_bitCount_3 rfl ?_
  refine lv_ldcw (v := 1431655765) hx hb hown (hts (.constant R_LI 265 1431655765) (by decide +kernel)) d_LI_bitCount_4 ?_
  refine nv_topi (y := nI 1431655765) (by decide +kernel) ?_
  refine lv_iand hx hb d_LI_bitCount_7 ?_
  refine lv_isub hx hb d_LI_bitCount_8 ?_
  refine lv_istore_n (lv' := [(0, .int ((nI i) - ((((nI i).toUInt32 >>> ((nI 1).toUInt32 &&& Int32.toUInt32 31)).toInt32) &&& (nI 1431655765))))]) hx hb d_LI_bitCount_9 rfl hl (by decide) rfl (fun ls hl => ?_)
  refine lv_iload_n hx hb d_LI_bitCount_10 rfl (lv_at hl 0 rfl) ?_
  refine lv_ldcw (v := 858993459) hx hb hown (hts (.constant R_LI 266 858993459) (by decide +kernel)) d_LI_bitCount_11 ?_
  refine nv_topi (y := nI 858993459) (by decide +kernel) ?_
  refine lv_iand hx hb d_LI_bitCount_14 ?_
  refine lv_iload_n hx hb d_LI_bitCount_15 rfl (lv_at hl 0 rfl) ?_
  refine lv_iconst (v := nI 2) hx hb d_LI_bitCount_16 (by decide) ?_
  refine lv_iushr hx hb d_LI_bitCount_17 rfl ?_
  refine lv_ldcw (v := 858993459) hx hb hown (hts (.constant R_LI 266 858993459) (by decide +kernel)) d_LI_bitCount_18 ?_
  refine nv_topi (y := nI 858993459) (by decide +kernel) ?_
  refine lv_iand hx hb d_LI_bitCount_21 ?_
  refine lv_iadd hx hb d_LI_bitCount_22 ?_
  refine lv_istore_n (lv' := [(0, .int ((((nI i) - ((((nI i).toUInt32 >>> ((nI 1).toUInt32 &&& Int32.toUInt32 31)).toInt32) &&& (nI 1431655765))) &&& (nI 858993459)) + (((((nI i) - ((((nI i).toUInt32 >>> ((nI 1).toUInt32 &&& Int32.toUInt32 31)).toInt32) &&& (nI 1431655765))).toUInt32 >>> ((nI 2).toUInt32 &&& Int32.toUInt32 31)).toInt32) &&& (nI 858993459))))]) hx hb d_LI_bitCount_23 rfl hl (by decide) rfl (fun ls hl => ?_)
  refine lv_iload_n hx hb d_LI_bitCount_24 rfl (lv_at hl 0 rfl) ?_
  refine lv_iload_n hx hb d_LI_bitCount_25 rfl (lv_at hl 0 rfl) ?_
  refine lv_iconst (v := nI 4) hx hb d_LI_bitCount_26 (by decide) ?_
  refine lv_iushr hx hb d_LI_bitCount_27 rfl ?_
  refine lv_iadd hx hb d_LI_bitCount_28 ?_
  refine lv_ldcw (v := 252645135) hx hb hown (hts (.constant R_LI 267 252645135) (by decide +kernel)) d_LI_bitCount_29 ?_
  refine nv_topi (y := nI 252645135) (by decide +kernel) ?_
  refine lv_iand hx hb d_LI_bitCount_32 ?_
  refine lv_istore_n (lv' := [(0, .int ((((((nI i) - ((((nI i).toUInt32 >>> ((nI 1).toUInt32 &&& Int32.toUInt32 31)).toInt32) &&& (nI 1431655765))) &&& (nI 858993459)) + (((((nI i) - ((((nI i).toUInt32 >>> ((nI 1).toUInt32 &&& Int32.toUInt32 31)).toInt32) &&& (nI 1431655765))).toUInt32 >>> ((nI 2).toUInt32 &&& Int32.toUInt32 31)).toInt32) &&& (nI 858993459))) + ((((((nI i) - ((((nI i).toUInt32 >>> ((nI 1).toUInt32 &&& Int32.toUInt32 31)).toInt32) &&& (nI 1431655765))) &&& (nI 858993459)) + (((((nI i) - ((((nI i).toUInt32 >>> ((nI 1).toUInt32 &&& Int32.toUInt32 31)).toInt32) &&& (nI 1431655765))).toUInt32 >>> ((nI 2).toUInt32 &&& Int32.toUInt32 31)).toInt32) &&& (nI 858993459))).toUInt32 >>> ((nI 4).toUInt32 &&& Int32.toUInt32 31)).toInt32)) &&& (nI 252645135)))]) hx hb d_LI_bitCount_33 rfl hl (by decide) rfl (fun ls hl => ?_)
  refine lv_iload_n hx hb d_LI_bitCount_34 rfl (lv_at hl 0 rfl) ?_
  refine lv_iload_n hx hb d_LI_bitCount_35 rfl (lv_at hl 0 rfl) ?_
  refine lv_bipush (v := nI 8) hx hb d_LI_bitCount_36 (by decide +kernel) ?_
  refine lv_iushr hx hb d_LI_bitCount_38 rfl ?_
  refine lv_iadd hx hb d_LI_bitCount_39 ?_
  refine lv_istore_n (lv' := [(0, .int (((((((nI i) - ((((nI i).toUInt32 >>> ((nI 1).toUInt32 &&& Int32.toUInt32 31)).toInt32) &&& (nI 1431655765))) &&& (nI 858993459)) + (((((nI i) - ((((nI i).toUInt32 >>> ((nI 1).toUInt32 &&& Int32.toUInt32 31)).toInt32) &&& (nI 1431655765))).toUInt32 >>> ((nI 2).toUInt32 &&& Int32.toUInt32 31)).toInt32) &&& (nI 858993459))) + ((((((nI i) - ((((nI i).toUInt32 >>> ((nI 1).toUInt32 &&& Int32.toUInt32 31)).toInt32) &&& (nI 1431655765))) &&& (nI 858993459)) + (((((nI i) - ((((nI i).toUInt32 >>> ((nI 1).toUInt32 &&& Int32.toUInt32 31)).toInt32) &&& (nI 1431655765))).toUInt32 >>> ((nI 2).toUInt32 &&& Int32.toUInt32 31)).toInt32) &&& (nI 858993459))).toUInt32 >>> ((nI 4).toUInt32 &&& Int32.toUInt32 31)).toInt32)) &&& (nI 252645135)) + ((((((((nI i) - ((((nI i).toUInt32 >>> ((nI 1).toUInt32 &&& Int32.toUInt32 31)).toInt32) &&& (nI 1431655765))) &&& (nI 858993459)) + (((((nI i) - ((((nI i).toUInt32 >>> ((nI 1).toUInt32 &&& Int32.toUInt32 31)).toInt32) &&& (nI 1431655765))).toUInt32 >>> ((nI 2).toUInt32 &&& Int32.toUInt32 31)).toInt32) &&& (nI 858993459))) + ((((((nI i) - ((((nI i).toUInt32 >>> ((nI 1).toUInt32 &&& Int32.toUInt32 31)).toInt32) &&& (nI 1431655765))) &&& (nI 858993459)) + (((((nI i) - ((((nI i).toUInt32 >>> ((nI 1).toUInt32 &&& Int32.toUInt32 31)).toInt32) &&& (nI 1431655765))).toUInt32 >>> ((nI 2).toUInt32 &&& Int32.toUInt32 31)).toInt32) &&& (nI 858993459))).toUInt32 >>> ((nI 4).toUInt32 &&& Int32.toUInt32 31)).toInt32)) &&& (nI 252645135)).toUInt32 >>> ((nI 8).toUInt32 &&& Int32.toUInt32 31)).toInt32)))]) hx hb d_LI_bitCount_40 rfl hl (by decide) rfl (fun ls hl => ?_)
  refine lv_iload_n hx hb d_LI_bitCount_41 rfl (lv_at hl 0 rfl) ?_
  refine lv_iload_n hx hb d_LI_bitCount_42 rfl (lv_at hl 0 rfl) ?_
  refine lv_bipush (v := nI 16) hx hb d_LI_bitCount_43 (by decide +kernel) ?_
  refine lv_iushr hx hb d_LI_bitCount_45 rfl ?_
  refine lv_iadd hx hb d_LI_bitCount_46 ?_
  refine lv_istore_n (lv' := [(0, .int ((((((((nI i) - ((((nI i).toUInt32 >>> ((nI 1).toUInt32 &&& Int32.toUInt32 31)).toInt32) &&& (nI 1431655765))) &&& (nI 858993459)) + (((((nI i) - ((((nI i).toUInt32 >>> ((nI 1).toUInt32 &&& Int32.toUInt32 31)).toInt32) &&& (nI 1431655765))).toUInt32 >>> ((nI 2).toUInt32 &&& Int32.toUInt32 31)).toInt32) &&& (nI 858993459))) + ((((((nI i) - ((((nI i).toUInt32 >>> ((nI 1).toUInt32 &&& Int32.toUInt32 31)).toInt32) &&& (nI 1431655765))) &&& (nI 858993459)) + (((((nI i) - ((((nI i).toUInt32 >>> ((nI 1).toUInt32 &&& Int32.toUInt32 31)).toInt32) &&& (nI 1431655765))).toUInt32 >>> ((nI 2).toUInt32 &&& Int32.toUInt32 31)).toInt32) &&& (nI 858993459))).toUInt32 >>> ((nI 4).toUInt32 &&& Int32.toUInt32 31)).toInt32)) &&& (nI 252645135)) + ((((((((nI i) - ((((nI i).toUInt32 >>> ((nI 1).toUInt32 &&& Int32.toUInt32 31)).toInt32) &&& (nI 1431655765))) &&& (nI 858993459)) + (((((nI i) - ((((nI i).toUInt32 >>> ((nI 1).toUInt32 &&& Int32.toUInt32 31)).toInt32) &&& (nI 1431655765))).toUInt32 >>> ((nI 2).toUInt32 &&& Int32.toUInt32 31)).toInt32) &&& (nI 858993459))) + ((((((nI i) - ((((nI i).toUInt32 >>> ((nI 1).toUInt32 &&& Int32.toUInt32 31)).toInt32) &&& (nI 1431655765))) &&& (nI 858993459)) + (((((nI i) - ((((nI i).toUInt32 >>> ((nI 1).toUInt32 &&& Int32.toUInt32 31)).toInt32) &&& (nI 1431655765))).toUInt32 >>> ((nI 2).toUInt32 &&& Int32.toUInt32 31)).toInt32) &&& (nI 858993459))).toUInt32 >>> ((nI 4).toUInt32 &&& Int32.toUInt32 31)).toInt32)) &&& (nI 252645135)).toUInt32 >>> ((nI 8).toUInt32 &&& Int32.toUInt32 31)).toInt32)) + (((((((((nI i) - ((((nI i).toUInt32 >>> ((nI 1).toUInt32 &&& Int32.toUInt32 31)).toInt32) &&& (nI 1431655765))) &&& (nI 858993459)) + (((((nI i) - ((((nI i).toUInt32 >>> ((nI 1).toUInt32 &&& Int32.toUInt32 31)).toInt32) &&& (nI 1431655765))).toUInt32 >>> ((nI 2).toUInt32 &&& Int32.toUInt32 31)).toInt32) &&& (nI 858993459))) + ((((((nI i) - ((((nI i).toUInt32 >>> ((nI 1).toUInt32 &&& Int32.toUInt32 31)).toInt32) &&& (nI 1431655765))) &&& (nI 858993459)) + (((((nI i) - ((((nI i).toUInt32 >>> ((nI 1).toUInt32 &&& Int32.toUInt32 31)).toInt32) &&& (nI 1431655765))).toUInt32 >>> ((nI 2).toUInt32 &&& Int32.toUInt32 31)).toInt32) &&& (nI 858993459))).toUInt32 >>> ((nI 4).toUInt32 &&& Int32.toUInt32 31)).toInt32)) &&& (nI 252645135)) + ((((((((nI i) - ((((nI i).toUInt32 >>> ((nI 1).toUInt32 &&& Int32.toUInt32 31)).toInt32) &&& (nI 1431655765))) &&& (nI 858993459)) + (((((nI i) - ((((nI i).toUInt32 >>> ((nI 1).toUInt32 &&& Int32.toUInt32 31)).toInt32) &&& (nI 1431655765))).toUInt32 >>> ((nI 2).toUInt32 &&& Int32.toUInt32 31)).toInt32) &&& (nI 858993459))) + ((((((nI i) - ((((nI i).toUInt32 >>> ((nI 1).toUInt32 &&& Int32.toUInt32 31)).toInt32) &&& (nI 1431655765))) &&& (nI 858993459)) + (((((nI i) - ((((nI i).toUInt32 >>> ((nI 1).toUInt32 &&& Int32.toUInt32 31)).toInt32) &&& (nI 1431655765))).toUInt32 >>> ((nI 2).toUInt32 &&& Int32.toUInt32 31)).toInt32) &&& (nI 858993459))).toUInt32 >>> ((nI 4).toUInt32 &&& Int32.toUInt32 31)).toInt32)) &&& (nI 252645135)).toUInt32 >>> ((nI 8).toUInt32 &&& Int32.toUInt32 31)).toInt32)).toUInt32 >>> ((nI 16).toUInt32 &&& Int32.toUInt32 31)).toInt32)))]) hx hb d_LI_bitCount_47 rfl hl (by decide) rfl (fun ls hl => ?_)
  refine lv_iload_n hx hb d_LI_bitCount_48 rfl (lv_at hl 0 rfl) ?_
  refine lv_bipush (v := nI 63) hx hb d_LI_bitCount_49 (by decide +kernel) ?_
  refine lv_iand hx hb d_LI_bitCount_51 ?_
  exact W.iret (v := ((((((((nI i) - ((((nI i).toUInt32 >>> ((nI 1).toUInt32 &&& Int32.toUInt32 31)).toInt32) &&& (nI 1431655765))) &&& (nI 858993459)) + (((((nI i) - ((((nI i).toUInt32 >>> ((nI 1).toUInt32 &&& Int32.toUInt32 31)).toInt32) &&& (nI 1431655765))).toUInt32 >>> ((nI 2).toUInt32 &&& Int32.toUInt32 31)).toInt32) &&& (nI 858993459))) + ((((((nI i) - ((((nI i).toUInt32 >>> ((nI 1).toUInt32 &&& Int32.toUInt32 31)).toInt32) &&& (nI 1431655765))) &&& (nI 858993459)) + (((((nI i) - ((((nI i).toUInt32 >>> ((nI 1).toUInt32 &&& Int32.toUInt32 31)).toInt32) &&& (nI 1431655765))).toUInt32 >>> ((nI 2).toUInt32 &&& Int32.toUInt32 31)).toInt32) &&& (nI 858993459))).toUInt32 >>> ((nI 4).toUInt32 &&& Int32.toUInt32 31)).toInt32)) &&& (nI 252645135)) + ((((((((nI i) - ((((nI i).toUInt32 >>> ((nI 1).toUInt32 &&& Int32.toUInt32 31)).toInt32) &&& (nI 1431655765))) &&& (nI 858993459)) + (((((nI i) - ((((nI i).toUInt32 >>> ((nI 1).toUInt32 &&& Int32.toUInt32 31)).toInt32) &&& (nI 1431655765))).toUInt32 >>> ((nI 2).toUInt32 &&& Int32.toUInt32 31)).toInt32) &&& (nI 858993459))) + ((((((nI i) - ((((nI i).toUInt32 >>> ((nI 1).toUInt32 &&& Int32.toUInt32 31)).toInt32) &&& (nI 1431655765))) &&& (nI 858993459)) + (((((nI i) - ((((nI i).toUInt32 >>> ((nI 1).toUInt32 &&& Int32.toUInt32 31)).toInt32) &&& (nI 1431655765))).toUInt32 >>> ((nI 2).toUInt32 &&& Int32.toUInt32 31)).toInt32) &&& (nI 858993459))).toUInt32 >>> ((nI 4).toUInt32 &&& Int32.toUInt32 31)).toInt32)) &&& (nI 252645135)).toUInt32 >>> ((nI 8).toUInt32 &&& Int32.toUInt32 31)).toInt32)) + (((((((((nI i) - ((((nI i).toUInt32 >>> ((nI 1).toUInt32 &&& Int32.toUInt32 31)).toInt32) &&& (nI 1431655765))) &&& (nI 858993459)) + (((((nI i) - ((((nI i).toUInt32 >>> ((nI 1).toUInt32 &&& Int32.toUInt32 31)).toInt32) &&& (nI 1431655765))).toUInt32 >>> ((nI 2).toUInt32 &&& Int32.toUInt32 31)).toInt32) &&& (nI 858993459))) + ((((((nI i) - ((((nI i).toUInt32 >>> ((nI 1).toUInt32 &&& Int32.toUInt32 31)).toInt32) &&& (nI 1431655765))) &&& (nI 858993459)) + (((((nI i) - ((((nI i).toUInt32 >>> ((nI 1).toUInt32 &&& Int32.toUInt32 31)).toInt32) &&& (nI 1431655765))).toUInt32 >>> ((nI 2).toUInt32 &&& Int32.toUInt32 31)).toInt32) &&& (nI 858993459))).toUInt32 >>> ((nI 4).toUInt32 &&& Int32.toUInt32 31)).toInt32)) &&& (nI 252645135)) + ((((((((nI i) - ((((nI i).toUInt32 >>> ((nI 1).toUInt32 &&& Int32.toUInt32 31)).toInt32) &&& (nI 1431655765))) &&& (nI 858993459)) + (((((nI i) - ((((nI i).toUInt32 >>> ((nI 1).toUInt32 &&& Int32.toUInt32 31)).toInt32) &&& (nI 1431655765))).toUInt32 >>> ((nI 2).toUInt32 &&& Int32.toUInt32 31)).toInt32) &&& (nI 858993459))) + ((((((nI i) - ((((nI i).toUInt32 >>> ((nI 1).toUInt32 &&& Int32.toUInt32 31)).toInt32) &&& (nI 1431655765))) &&& (nI 858993459)) + (((((nI i) - ((((nI i).toUInt32 >>> ((nI 1).toUInt32 &&& Int32.toUInt32 31)).toInt32) &&& (nI 1431655765))).toUInt32 >>> ((nI 2).toUInt32 &&& Int32.toUInt32 31)).toInt32) &&& (nI 858993459))).toUInt32 >>> ((nI 4).toUInt32 &&& Int32.toUInt32 31)).toInt32)) &&& (nI 252645135)).toUInt32 >>> ((nI 8).toUInt32 &&& Int32.toUInt32 31)).toInt32)).toUInt32 >>> ((nI 16).toUInt32 &&& Int32.toUInt32 31)).toInt32)) &&& (nI 63)) hx hb hr (fun t ht hW => ⟨_, rfl, bc64 i hi64, ht⟩) t_nil d_LI_bitCount_52

