section
-- ===== PART A: goes FIRST, ahead of the names: the tables' words, and 'selects' of the private methods out of them =====
/-- a private method of a class that the tables say can be made, by its rows of tables_1 -/
def lw_okq (q : MethodName × Nat) : Prop := (q.1.cls ≠ "java/lang/invoke/MethodHandle" ∧ q.1.cls ≠ "java/lang/invoke/VarHandle") ∧ Cond.instantiable q.1.cls q.2 ∈ tables_1 ∧ Cond.privateMethod q.1 ∈ tables_1 ∧ Cond.instanceMethod q.1 ∈ tables_1
theorem lw_p0 : lw_okq (⟨"PartShelves", "isDayFromToday", "(I)Z"⟩, 13) := ⟨⟨by decide +kernel, by decide +kernel⟩, List.mem_of_getElem? (i := 20) (by decide +kernel), List.mem_of_getElem? (i := 189) (by decide +kernel), List.mem_of_getElem? (i := 190) (by decide +kernel)⟩
theorem lw_p1 : lw_okq (⟨"java/util/ArrayList", "add", "(Ljava/lang/Object;[Ljava/lang/Object;I)V"⟩, 3) := ⟨⟨by decide +kernel, by decide +kernel⟩, List.mem_of_getElem? (i := 46) (by decide +kernel), List.mem_of_getElem? (i := 265) (by decide +kernel), List.mem_of_getElem? (i := 266) (by decide +kernel)⟩
theorem lw_p2 : lw_okq (⟨"java/util/ArrayList", "grow", "()[Ljava/lang/Object;"⟩, 3) := ⟨⟨by decide +kernel, by decide +kernel⟩, List.mem_of_getElem? (i := 46) (by decide +kernel), List.mem_of_getElem? (i := 269) (by decide +kernel), List.mem_of_getElem? (i := 270) (by decide +kernel)⟩
theorem lw_p3 : lw_okq (⟨"java/util/ArrayList", "grow", "(I)[Ljava/lang/Object;"⟩, 3) := ⟨⟨by decide +kernel, by decide +kernel⟩, List.mem_of_getElem? (i := 46) (by decide +kernel), List.mem_of_getElem? (i := 273) (by decide +kernel), List.mem_of_getElem? (i := 274) (by decide +kernel)⟩
theorem lw_p4 : lw_okq (⟨"PartShelves", "partAt", "(I)LPartShelves$Part;"⟩, 13) := ⟨⟨by decide +kernel, by decide +kernel⟩, List.mem_of_getElem? (i := 20) (by decide +kernel), List.mem_of_getElem? (i := 321) (by decide +kernel), List.mem_of_getElem? (i := 322) (by decide +kernel)⟩
theorem lw_p5 : lw_okq (⟨"PartShelves", "askAt", "(I)LPartShelves$Ask;"⟩, 13) := ⟨⟨by decide +kernel, by decide +kernel⟩, List.mem_of_getElem? (i := 20) (by decide +kernel), List.mem_of_getElem? (i := 387) (by decide +kernel), List.mem_of_getElem? (i := 388) (by decide +kernel)⟩
theorem lw_p6 : lw_okq (⟨"PartShelves", "rankOf", "(LPartShelves$Ask;)I"⟩, 13) := ⟨⟨by decide +kernel, by decide +kernel⟩, List.mem_of_getElem? (i := 20) (by decide +kernel), List.mem_of_getElem? (i := 403) (by decide +kernel), List.mem_of_getElem? (i := 404) (by decide +kernel)⟩
theorem lw_p7 : lw_okq (⟨"PartShelves", "pairWorth", "(LPartShelves$Part;LPartShelves$Ask;)J"⟩, 13) := ⟨⟨by decide +kernel, by decide +kernel⟩, List.mem_of_getElem? (i := 20) (by decide +kernel), List.mem_of_getElem? (i := 415) (by decide +kernel), List.mem_of_getElem? (i := 416) (by decide +kernel)⟩
theorem lw_p8 : lw_okq (⟨"PartShelves$Matching", "turnWorthsIntoShares", "()V"⟩, 13) := ⟨⟨by decide +kernel, by decide +kernel⟩, List.mem_of_getElem? (i := 73) (by decide +kernel), List.mem_of_getElem? (i := 432) (by decide +kernel), List.mem_of_getElem? (i := 433) (by decide +kernel)⟩
theorem lw_p9 : lw_okq (⟨"PartShelves$Matching", "weighSets", "(IIII)V"⟩, 13) := ⟨⟨by decide +kernel, by decide +kernel⟩, List.mem_of_getElem? (i := 73) (by decide +kernel), List.mem_of_getElem? (i := 438) (by decide +kernel), List.mem_of_getElem? (i := 439) (by decide +kernel)⟩
theorem lw_p10 : lw_okq (⟨"PartShelves$Matching", "collectOptions", "(III)V"⟩, 13) := ⟨⟨by decide +kernel, by decide +kernel⟩, List.mem_of_getElem? (i := 73) (by decide +kernel), List.mem_of_getElem? (i := 442) (by decide +kernel), List.mem_of_getElem? (i := 443) (by decide +kernel)⟩
theorem lw_p11 : lw_okq (⟨"PartShelves$Matching", "addRow", "(I)V"⟩, 13) := ⟨⟨by decide +kernel, by decide +kernel⟩, List.mem_of_getElem? (i := 73) (by decide +kernel), List.mem_of_getElem? (i := 446) (by decide +kernel), List.mem_of_getElem? (i := 447) (by decide +kernel)⟩
theorem lw_p12 : lw_okq (⟨"PartShelves$Matching", "readGiven", "(J)V"⟩, 13) := ⟨⟨by decide +kernel, by decide +kernel⟩, List.mem_of_getElem? (i := 73) (by decide +kernel), List.mem_of_getElem? (i := 453) (by decide +kernel), List.mem_of_getElem? (i := 454) (by decide +kernel)⟩
theorem lw_p13 : lw_okq (⟨"PartShelves$Matching", "readGains", "([JI)V"⟩, 13) := ⟨⟨by decide +kernel, by decide +kernel⟩, List.mem_of_getElem? (i := 73) (by decide +kernel), List.mem_of_getElem? (i := 457) (by decide +kernel), List.mem_of_getElem? (i := 458) (by decide +kernel)⟩
theorem lw_p14 : lw_okq (⟨"PartShelves$RepairPlan", "costOfSet", "(ILjava/util/ArrayList;)J"⟩, 4) := ⟨⟨by decide +kernel, by decide +kernel⟩, List.mem_of_getElem? (i := 121) (by decide +kernel), List.mem_of_getElem? (i := 541) (by decide +kernel), List.mem_of_getElem? (i := 542) (by decide +kernel)⟩
theorem lw_p15 : lw_okq (⟨"PartShelves", "recallOne", "(ILPartShelves$Part;)V"⟩, 13) := ⟨⟨by decide +kernel, by decide +kernel⟩, List.mem_of_getElem? (i := 20) (by decide +kernel), List.mem_of_getElem? (i := 574) (by decide +kernel), List.mem_of_getElem? (i := 575) (by decide +kernel)⟩
def lw_privs_1 : List (MethodName × Nat) := [(⟨"PartShelves", "isDayFromToday", "(I)Z"⟩, 13), (⟨"java/util/ArrayList", "add", "(Ljava/lang/Object;[Ljava/lang/Object;I)V"⟩, 3), (⟨"java/util/ArrayList", "grow", "()[Ljava/lang/Object;"⟩, 3), (⟨"java/util/ArrayList", "grow", "(I)[Ljava/lang/Object;"⟩, 3), (⟨"PartShelves", "partAt", "(I)LPartShelves$Part;"⟩, 13), (⟨"PartShelves", "askAt", "(I)LPartShelves$Ask;"⟩, 13), (⟨"PartShelves", "rankOf", "(LPartShelves$Ask;)I"⟩, 13), (⟨"PartShelves", "pairWorth", "(LPartShelves$Part;LPartShelves$Ask;)J"⟩, 13), (⟨"PartShelves$Matching", "turnWorthsIntoShares", "()V"⟩, 13), (⟨"PartShelves$Matching", "weighSets", "(IIII)V"⟩, 13), (⟨"PartShelves$Matching", "collectOptions", "(III)V"⟩, 13), (⟨"PartShelves$Matching", "addRow", "(I)V"⟩, 13), (⟨"PartShelves$Matching", "readGiven", "(J)V"⟩, 13), (⟨"PartShelves$Matching", "readGains", "([JI)V"⟩, 13), (⟨"PartShelves$RepairPlan", "costOfSet", "(ILjava/util/ArrayList;)J"⟩, 4), (⟨"PartShelves", "recallOne", "(ILPartShelves$Part;)V"⟩, 13)]
theorem lw_r1 : ∀ q ∈ lw_privs_1, lw_okq q := List.forall_mem_cons.mpr ⟨lw_p0, List.forall_mem_cons.mpr ⟨lw_p1, List.forall_mem_cons.mpr ⟨lw_p2, List.forall_mem_cons.mpr ⟨lw_p3, List.forall_mem_cons.mpr ⟨lw_p4, List.forall_mem_cons.mpr ⟨lw_p5, List.forall_mem_cons.mpr ⟨lw_p6, List.forall_mem_cons.mpr ⟨lw_p7, List.forall_mem_cons.mpr ⟨lw_p8, List.forall_mem_cons.mpr ⟨lw_p9, List.forall_mem_cons.mpr ⟨lw_p10, List.forall_mem_cons.mpr ⟨lw_p11, List.forall_mem_cons.mpr ⟨lw_p12, List.forall_mem_cons.mpr ⟨lw_p13, List.forall_mem_cons.mpr ⟨lw_p14, List.forall_mem_cons.mpr ⟨lw_p15, fun _ h => absurd h List.not_mem_nil⟩⟩⟩⟩⟩⟩⟩⟩⟩⟩⟩⟩⟩⟩⟩⟩
theorem lw_p16 : lw_okq (⟨"PartShelvesModel", "isPart", "(I)Z"⟩, 36) := ⟨⟨by decide +kernel, by decide +kernel⟩, List.mem_of_getElem? (i := 597) (by decide +kernel), List.mem_of_getElem? (i := 741) (by decide +kernel), List.mem_of_getElem? (i := 742) (by decide +kernel)⟩
theorem lw_p17 : lw_okq (⟨"PartShelvesModel", "priceOf", "(I)J"⟩, 36) := ⟨⟨by decide +kernel, by decide +kernel⟩, List.mem_of_getElem? (i := 597) (by decide +kernel), List.mem_of_getElem? (i := 745) (by decide +kernel), List.mem_of_getElem? (i := 746) (by decide +kernel)⟩
theorem lw_p18 : lw_okq (⟨"PartShelvesModel", "stateOf", "(I)I"⟩, 36) := ⟨⟨by decide +kernel, by decide +kernel⟩, List.mem_of_getElem? (i := 597) (by decide +kernel), List.mem_of_getElem? (i := 754) (by decide +kernel), List.mem_of_getElem? (i := 755) (by decide +kernel)⟩
theorem lw_p19 : lw_okq (⟨"PartShelvesModel", "isOpen", "(I)Z"⟩, 36) := ⟨⟨by decide +kernel, by decide +kernel⟩, List.mem_of_getElem? (i := 597) (by decide +kernel), List.mem_of_getElem? (i := 767) (by decide +kernel), List.mem_of_getElem? (i := 768) (by decide +kernel)⟩
theorem lw_p20 : lw_okq (⟨"PartShelvesModel", "sortAsks", "()I"⟩, 36) := ⟨⟨by decide +kernel, by decide +kernel⟩, List.mem_of_getElem? (i := 597) (by decide +kernel), List.mem_of_getElem? (i := 775) (by decide +kernel), List.mem_of_getElem? (i := 776) (by decide +kernel)⟩
theorem lw_p21 : lw_okq (⟨"PartShelvesModel", "greatest", "(III)J"⟩, 36) := ⟨⟨by decide +kernel, by decide +kernel⟩, List.mem_of_getElem? (i := 597) (by decide +kernel), List.mem_of_getElem? (i := 779) (by decide +kernel), List.mem_of_getElem? (i := 780) (by decide +kernel)⟩
theorem lw_p22 : lw_okq (⟨"PartShelvesModel", "isPair", "(II)Z"⟩, 36) := ⟨⟨by decide +kernel, by decide +kernel⟩, List.mem_of_getElem? (i := 597) (by decide +kernel), List.mem_of_getElem? (i := 783) (by decide +kernel), List.mem_of_getElem? (i := 784) (by decide +kernel)⟩
theorem lw_p23 : lw_okq (⟨"PartShelvesModel", "partFor", "(II)I"⟩, 36) := ⟨⟨by decide +kernel, by decide +kernel⟩, List.mem_of_getElem? (i := 597) (by decide +kernel), List.mem_of_getElem? (i := 787) (by decide +kernel), List.mem_of_getElem? (i := 788) (by decide +kernel)⟩
theorem lw_p24 : lw_okq (⟨"PartShelvesModel", "costOfJobs", "(I)J"⟩, 36) := ⟨⟨by decide +kernel, by decide +kernel⟩, List.mem_of_getElem? (i := 597) (by decide +kernel), List.mem_of_getElem? (i := 823) (by decide +kernel), List.mem_of_getElem? (i := 824) (by decide +kernel)⟩
theorem lw_p25 : lw_okq (⟨"PartShelvesModel", "costOf", "(II)J"⟩, 36) := ⟨⟨by decide +kernel, by decide +kernel⟩, List.mem_of_getElem? (i := 597) (by decide +kernel), List.mem_of_getElem? (i := 827) (by decide +kernel), List.mem_of_getElem? (i := 828) (by decide +kernel)⟩
theorem lw_p26 : lw_okq (⟨"PartShelvesModel", "sizeOf", "(I)I"⟩, 36) := ⟨⟨by decide +kernel, by decide +kernel⟩, List.mem_of_getElem? (i := 597) (by decide +kernel), List.mem_of_getElem? (i := 831) (by decide +kernel), List.mem_of_getElem? (i := 832) (by decide +kernel)⟩
def lw_privs_2 : List (MethodName × Nat) := [(⟨"PartShelvesModel", "isPart", "(I)Z"⟩, 36), (⟨"PartShelvesModel", "priceOf", "(I)J"⟩, 36), (⟨"PartShelvesModel", "stateOf", "(I)I"⟩, 36), (⟨"PartShelvesModel", "isOpen", "(I)Z"⟩, 36), (⟨"PartShelvesModel", "sortAsks", "()I"⟩, 36), (⟨"PartShelvesModel", "greatest", "(III)J"⟩, 36), (⟨"PartShelvesModel", "isPair", "(II)Z"⟩, 36), (⟨"PartShelvesModel", "partFor", "(II)I"⟩, 36), (⟨"PartShelvesModel", "costOfJobs", "(I)J"⟩, 36), (⟨"PartShelvesModel", "costOf", "(II)J"⟩, 36), (⟨"PartShelvesModel", "sizeOf", "(I)I"⟩, 36)]
theorem lw_r2 : ∀ q ∈ lw_privs_2, lw_okq q := List.forall_mem_cons.mpr ⟨lw_p16, List.forall_mem_cons.mpr ⟨lw_p17, List.forall_mem_cons.mpr ⟨lw_p18, List.forall_mem_cons.mpr ⟨lw_p19, List.forall_mem_cons.mpr ⟨lw_p20, List.forall_mem_cons.mpr ⟨lw_p21, List.forall_mem_cons.mpr ⟨lw_p22, List.forall_mem_cons.mpr ⟨lw_p23, List.forall_mem_cons.mpr ⟨lw_p24, List.forall_mem_cons.mpr ⟨lw_p25, List.forall_mem_cons.mpr ⟨lw_p26, fun _ h => absurd h List.not_mem_nil⟩⟩⟩⟩⟩⟩⟩⟩⟩⟩⟩
def lw_privs : List (MethodName × Nat) := lw_privs_1 ++ (lw_privs_2)
def lw_tbl : List Cond := k2_sels lw_privs ++ tables_1
theorem lw_privs_ok : ∀ q ∈ lw_privs, lw_okq q := by
  show ∀ q ∈ lw_privs_1 ++ (lw_privs_2), lw_okq q
  exact List.forall_mem_append.mpr ⟨lw_r1, lw_r2⟩
end
section
/-! own rows: numbers that are naturals, branches over them, arrays by natural places -/
section NV
variable {p : Program} {l : Launch} {e : Env} {R : Room} {s : State} {m : MethodId} {args : Array Value} {below : List Frame} {meth : Method} {c : Code} {H : Heap} {locs : List Loc} {cells slots : Nat} {Q : State → Prop}
variable {cc : ByteArray} {pc : Nat} {ls : Array Slot} {rest : List Value}
theorem nv_topi {x y : Int32} (h : x = y) (k : W p l e R s m args below meth c H locs cells slots Q (F0 m pc ls (.int y :: rest))) : W p l e R s m args below meth c H locs cells slots Q (F0 m pc ls (.int x :: rest)) := by subst h; exact k
theorem nv_topl {x y : Int64} (h : x = y) (k : W p l e R s m args below meth c H locs cells slots Q (F0 m pc ls (.long y :: rest))) : W p l e R s m args below meth c H locs cells slots Q (F0 m pc ls (.long x :: rest)) := by subst h; exact k
theorem nv_iadd {a b : Nat} (hx : p.tables.exec = Jvm.exec) (hb : c.code = cc) (hdg : decode cc pc = .ok (.iadd, 1)) (k : W p l e R s m args below meth c H locs cells slots Q (F0 m (pc + 1) ls (.int (nI (a + b)) :: rest))) : W p l e R s m args below meth c H locs cells slots Q (F0 m pc ls (.int (nI b) :: .int (nI a) :: rest)) := lv_iadd hx hb hdg (by rw [nI_add]; exact k)
theorem nv_isub {a b : Nat} (hx : p.tables.exec = Jvm.exec) (hb : c.code = cc) (hdg : decode cc pc = .ok (.isub, 1)) (h : b ≤ a) (k : W p l e R s m args below meth c H locs cells slots Q (F0 m (pc + 1) ls (.int (nI (a - b)) :: rest))) : W p l e R s m args below meth c H locs cells slots Q (F0 m pc ls (.int (nI b) :: .int (nI a) :: rest)) := lv_isub hx hb hdg (by rw [pk_sub h]; exact k)
theorem nv_imul {a b : Nat} (hx : p.tables.exec = Jvm.exec) (hb : c.code = cc) (hdg : decode cc pc = .ok (.imul, 1)) (k : W p l e R s m args below meth c H locs cells slots Q (F0 m (pc + 1) ls (.int (nI (a * b)) :: rest))) : W p l e R s m args below meth c H locs cells slots Q (F0 m pc ls (.int (nI b) :: .int (nI a) :: rest)) := lv_imul hx hb hdg (by rw [pk_mul]; exact k)
theorem nv_ladd {a b : Nat} (hx : p.tables.exec = Jvm.exec) (hb : c.code = cc) (hdg : decode cc pc = .ok (.ladd, 1)) (k : W p l e R s m args below meth c H locs cells slots Q (F0 m (pc + 1) ls (.long (lN (a + b)) :: rest))) : W p l e R s m args below meth c H locs cells slots Q (F0 m pc ls (.long (lN b) :: .long (lN a) :: rest)) := lv_ladd hx hb hdg (by rw [lN_add]; exact k)
theorem nv_lsub {a b : Nat} (hx : p.tables.exec = Jvm.exec) (hb : c.code = cc) (hdg : decode cc pc = .ok (.lsub, 1)) (h : b ≤ a) (k : W p l e R s m args below meth c H locs cells slots Q (F0 m (pc + 1) ls (.long (lN (a - b)) :: rest))) : W p l e R s m args below meth c H locs cells slots Q (F0 m pc ls (.long (lN b) :: .long (lN a) :: rest)) := lv_lsub hx hb hdg (by rw [lN_sub h]; exact k)
theorem nv_lmul {a b : Nat} (hx : p.tables.exec = Jvm.exec) (hb : c.code = cc) (hdg : decode cc pc = .ok (.lmul, 1)) (k : W p l e R s m args below meth c H locs cells slots Q (F0 m (pc + 1) ls (.long (lN (a * b)) :: rest))) : W p l e R s m args below meth c H locs cells slots Q (F0 m pc ls (.long (lN b) :: .long (lN a) :: rest)) := lv_lmul hx hb hdg (by rw [lN_mul]; exact k)
theorem nv_i2l {a : Nat} (hx : p.tables.exec = Jvm.exec) (hb : c.code = cc) (hdg : decode cc pc = .ok (.i2l, 1)) (h : a < 2 ^ 31) (k : W p l e R s m args below meth c H locs cells slots Q (F0 m (pc + 1) ls (.long (lN a) :: rest))) : W p l e R s m args below meth c H locs cells slots Q (F0 m pc ls (.int (nI a) :: rest)) := lv_i2l hx hb hdg (nI_l h) k
theorem nv_l2i {a : Nat} (hx : p.tables.exec = Jvm.exec) (hb : c.code = cc) (hdg : decode cc pc = .ok (.l2i, 1)) (k : W p l e R s m args below meth c H locs cells slots Q (F0 m (pc + 1) ls (.int (nI a) :: rest))) : W p l e R s m args below meth c H locs cells slots Q (F0 m pc ls (.long (lN a) :: rest)) := lv_l2i hx hb hdg (lN_i a) k
theorem nv_ldiv {a b : Nat} (hx : p.tables.exec = Jvm.exec) (hb : c.code = cc) (hdg : decode cc pc = .ok (.ldiv, 1)) (ha : a < 2 ^ 63) (h0 : 0 < b) (hb2 : b < 2 ^ 63) (k : W p l e R s m args below meth c H locs cells slots Q (F0 m (pc + 1) ls (.long (lN (a / b)) :: rest))) : W p l e R s m args below meth c H locs cells slots Q (F0 m pc ls (.long (lN b) :: .long (lN a) :: rest)) := lv_ldiv hx hb hdg (fun z => absurd ((pk_lEQ hb2 (by decide)).mp (z.trans (by decide : (0 : Int64) = lN 0))) (by omega)) (by rw [pk_lDiv ha h0 hb2]; exact k)
theorem nv_lrem {a b : Nat} (hx : p.tables.exec = Jvm.exec) (hb : c.code = cc) (hdg : decode cc pc = .ok (.lrem, 1)) (ha : a < 2 ^ 63) (h0 : 0 < b) (hb2 : b < 2 ^ 63) (k : W p l e R s m args below meth c H locs cells slots Q (F0 m (pc + 1) ls (.long (lN (a % b)) :: rest))) : W p l e R s m args below meth c H locs cells slots Q (F0 m pc ls (.long (lN b) :: .long (lN a) :: rest)) := lv_lrem hx hb hdg (fun z => absurd ((pk_lEQ hb2 (by decide)).mp (z.trans (by decide : (0 : Int64) = lN 0))) (by omega)) (by rw [pk_lRem ha h0 hb2]; exact k)
theorem nv_icmp_eq {a b : Nat} {off : Int} {tgt : Nat} (hx : p.tables.exec = Jvm.exec) (hb : c.code = cc) (hdg : decode cc pc = .ok (.if_icmp .eq off, 3)) (ht : (pc : Int) + off = (tgt : Int)) (ha : a < 2 ^ 31) (hb2 : b < 2 ^ 31) (kt : a = b → W p l e R s m args below meth c H locs cells slots Q (F0 m tgt ls rest)) (kf : ¬ a = b → W p l e R s m args below meth c H locs cells slots Q (F0 m (pc + 3) ls rest)) : W p l e R s m args below meth c H locs cells slots Q (F0 m pc ls (.int (nI b) :: .int (nI a) :: rest)) := lv_icmp_eq hx hb hdg ht (fun z => kt ((nI_eq ha hb2).mp z)) (fun z => kf (fun q => z ((nI_eq ha hb2).mpr q)))
theorem nv_icmp_ne {a b : Nat} {off : Int} {tgt : Nat} (hx : p.tables.exec = Jvm.exec) (hb : c.code = cc) (hdg : decode cc pc = .ok (.if_icmp .ne off, 3)) (ht : (pc : Int) + off = (tgt : Int)) (ha : a < 2 ^ 31) (hb2 : b < 2 ^ 31) (kt : ¬ a = b → W p l e R s m args below meth c H locs cells slots Q (F0 m tgt ls rest)) (kf : a = b → W p l e R s m args below meth c H locs cells slots Q (F0 m (pc + 3) ls rest)) : W p l e R s m args below meth c H locs cells slots Q (F0 m pc ls (.int (nI b) :: .int (nI a) :: rest)) := lv_icmp_ne hx hb hdg ht (fun z => kt (fun q => z ((nI_eq ha hb2).mpr q))) (fun z => kf ((nI_eq ha hb2).mp z))
theorem nv_icmp_lt {a b : Nat} {off : Int} {tgt : Nat} (hx : p.tables.exec = Jvm.exec) (hb : c.code = cc) (hdg : decode cc pc = .ok (.if_icmp .lt off, 3)) (ht : (pc : Int) + off = (tgt : Int)) (ha : a < 2 ^ 31) (hb2 : b < 2 ^ 31) (kt : a < b → W p l e R s m args below meth c H locs cells slots Q (F0 m tgt ls rest)) (kf : b ≤ a → W p l e R s m args below meth c H locs cells slots Q (F0 m (pc + 3) ls rest)) : W p l e R s m args below meth c H locs cells slots Q (F0 m pc ls (.int (nI b) :: .int (nI a) :: rest)) := lv_icmp_lt hx hb hdg ht (fun z => kt ((nI_ltI ha hb2).mp z)) (fun z => kf (Nat.le_of_not_lt (fun q => z ((nI_ltI ha hb2).mpr q))))
theorem nv_icmp_ge {a b : Nat} {off : Int} {tgt : Nat} (hx : p.tables.exec = Jvm.exec) (hb : c.code = cc) (hdg : decode cc pc = .ok (.if_icmp .ge off, 3)) (ht : (pc : Int) + off = (tgt : Int)) (ha : a < 2 ^ 31) (hb2 : b < 2 ^ 31) (kt : b ≤ a → W p l e R s m args below meth c H locs cells slots Q (F0 m tgt ls rest)) (kf : a < b → W p l e R s m args below meth c H locs cells slots Q (F0 m (pc + 3) ls rest)) : W p l e R s m args below meth c H locs cells slots Q (F0 m pc ls (.int (nI b) :: .int (nI a) :: rest)) := lv_icmp_ge hx hb hdg ht (fun z => kt ((nI_leI hb2 ha).mp z)) (fun z => kf (Nat.lt_of_not_le (fun q => z ((nI_leI hb2 ha).mpr q))))
theorem nv_icmp_gt {a b : Nat} {off : Int} {tgt : Nat} (hx : p.tables.exec = Jvm.exec) (hb : c.code = cc) (hdg : decode cc pc = .ok (.if_icmp .gt off, 3)) (ht : (pc : Int) + off = (tgt : Int)) (ha : a < 2 ^ 31) (hb2 : b < 2 ^ 31) (kt : b < a → W p l e R s m args below meth c H locs cells slots Q (F0 m tgt ls rest)) (kf : a ≤ b → W p l e R s m args below meth c H locs cells slots Q (F0 m (pc + 3) ls rest)) : W p l e R s m args below meth c H locs cells slots Q (F0 m pc ls (.int (nI b) :: .int (nI a) :: rest)) := lv_icmp_gt hx hb hdg ht (fun z => kt ((nI_ltI hb2 ha).mp z)) (fun z => kf (Nat.le_of_not_lt (fun q => z ((nI_ltI hb2 ha).mpr q))))
theorem nv_icmp_le {a b : Nat} {off : Int} {tgt : Nat} (hx : p.tables.exec = Jvm.exec) (hb : c.code = cc) (hdg : decode cc pc = .ok (.if_icmp .le off, 3)) (ht : (pc : Int) + off = (tgt : Int)) (ha : a < 2 ^ 31) (hb2 : b < 2 ^ 31) (kt : a ≤ b → W p l e R s m args below meth c H locs cells slots Q (F0 m tgt ls rest)) (kf : b < a → W p l e R s m args below meth c H locs cells slots Q (F0 m (pc + 3) ls rest)) : W p l e R s m args below meth c H locs cells slots Q (F0 m pc ls (.int (nI b) :: .int (nI a) :: rest)) := lv_icmp_le hx hb hdg ht (fun z => kt ((nI_leI ha hb2).mp z)) (fun z => kf (Nat.lt_of_not_le (fun q => z ((nI_leI ha hb2).mpr q))))
theorem nv_z0 {a : Nat} (h : a < 2 ^ 31) : nI a = 0 ↔ a = 0 := ⟨fun z => (nI_eq h (by decide)).mp (z.trans nI_0.symm), fun z => by rw [z]; exact nI_0⟩
theorem nv_if_eq {a : Nat} {off : Int} {tgt : Nat} (hx : p.tables.exec = Jvm.exec) (hb : c.code = cc) (hdg : decode cc pc = .ok (.ifCond .eq off, 3)) (ht : (pc : Int) + off = (tgt : Int)) (ha : a < 2 ^ 31) (kt : a = 0 → W p l e R s m args below meth c H locs cells slots Q (F0 m tgt ls rest)) (kf : ¬ a = 0 → W p l e R s m args below meth c H locs cells slots Q (F0 m (pc + 3) ls rest)) : W p l e R s m args below meth c H locs cells slots Q (F0 m pc ls (.int (nI a) :: rest)) := lv_if_eq hx hb hdg ht (fun q => kt ((nv_z0 ha).mp q)) (fun q => kf (fun y => q ((nv_z0 ha).mpr y)))
theorem nv_if_ne {a : Nat} {off : Int} {tgt : Nat} (hx : p.tables.exec = Jvm.exec) (hb : c.code = cc) (hdg : decode cc pc = .ok (.ifCond .ne off, 3)) (ht : (pc : Int) + off = (tgt : Int)) (ha : a < 2 ^ 31) (kt : ¬ a = 0 → W p l e R s m args below meth c H locs cells slots Q (F0 m tgt ls rest)) (kf : a = 0 → W p l e R s m args below meth c H locs cells slots Q (F0 m (pc + 3) ls rest)) : W p l e R s m args below meth c H locs cells slots Q (F0 m pc ls (.int (nI a) :: rest)) := lv_if_ne hx hb hdg ht (fun q => kt (fun y => q ((nv_z0 ha).mpr y))) (fun q => kf ((nv_z0 ha).mp q))
theorem nv_if_lt {a : Nat} {off : Int} {tgt : Nat} (hx : p.tables.exec = Jvm.exec) (hb : c.code = cc) (hdg : decode cc pc = .ok (.ifCond .lt off, 3)) (ht : (pc : Int) + off = (tgt : Int)) (ha : a < 2 ^ 31) (kf : W p l e R s m args below meth c H locs cells slots Q (F0 m (pc + 3) ls rest)) : W p l e R s m args below meth c H locs cells slots Q (F0 m pc ls (.int (nI a) :: rest)) := lv_if_lt hx hb hdg ht (fun z => absurd z (nI_pos ha)) (fun _ => kf)
theorem nv_if_ge {a : Nat} {off : Int} {tgt : Nat} (hx : p.tables.exec = Jvm.exec) (hb : c.code = cc) (hdg : decode cc pc = .ok (.ifCond .ge off, 3)) (ht : (pc : Int) + off = (tgt : Int)) (ha : a < 2 ^ 31) (kt : W p l e R s m args below meth c H locs cells slots Q (F0 m tgt ls rest)) : W p l e R s m args below meth c H locs cells slots Q (F0 m pc ls (.int (nI a) :: rest)) := lv_if_ge hx hb hdg ht (fun _ => kt) (fun z => absurd (nI_pos' ha) z)
theorem nv_if_gt {a : Nat} {off : Int} {tgt : Nat} (hx : p.tables.exec = Jvm.exec) (hb : c.code = cc) (hdg : decode cc pc = .ok (.ifCond .gt off, 3)) (ht : (pc : Int) + off = (tgt : Int)) (ha : a < 2 ^ 31) (kt : 0 < a → W p l e R s m args below meth c H locs cells slots Q (F0 m tgt ls rest)) (kf : a = 0 → W p l e R s m args below meth c H locs cells slots Q (F0 m (pc + 3) ls rest)) : W p l e R s m args below meth c H locs cells slots Q (F0 m pc ls (.int (nI a) :: rest)) := lv_if_gt hx hb hdg ht (fun z => kt (Nat.pos_of_ne_zero (fun q => by subst q; exact absurd z (by decide)))) (fun z => kf (by rcases Nat.eq_zero_or_pos a with q | q; exact q; exact absurd (nI_lt q ha) z))
theorem nv_if_le {a : Nat} {off : Int} {tgt : Nat} (hx : p.tables.exec = Jvm.exec) (hb : c.code = cc) (hdg : decode cc pc = .ok (.ifCond .le off, 3)) (ht : (pc : Int) + off = (tgt : Int)) (ha : a < 2 ^ 31) (kt : a = 0 → W p l e R s m args below meth c H locs cells slots Q (F0 m tgt ls rest)) (kf : 0 < a → W p l e R s m args below meth c H locs cells slots Q (F0 m (pc + 3) ls rest)) : W p l e R s m args below meth c H locs cells slots Q (F0 m pc ls (.int (nI a) :: rest)) := lv_if_le hx hb hdg ht (fun z => kt (by rcases Nat.eq_zero_or_pos a with q | q; exact q; exact absurd z (nI_nle q ha))) (fun z => kf (Nat.pos_of_ne_zero (fun q => by subst q; exact absurd (by decide) z)))
theorem lc_eq {x y : Int64} {off : Int} {tgt : Nat} (hx : p.tables.exec = Jvm.exec) (hb : c.code = cc) (hd1 : decode cc pc = .ok (.lcmp, 1)) (hd2 : decode cc (pc + 1) = .ok (.ifCond .eq off, 3)) (ht : ((pc + 1 : Nat) : Int) + off = (tgt : Int)) (kt : x = y → W p l e R s m args below meth c H locs cells slots Q (F0 m tgt ls rest)) (kf : ¬ x = y → W p l e R s m args below meth c H locs cells slots Q (F0 m (pc + 4) ls rest)) : W p l e R s m args below meth c H locs cells slots Q (F0 m pc ls (.long y :: .long x :: rest)) := W.lcmp hx hb hd1 (lv_if_eq hx hb hd2 ht (fun z => kt ((lg_cmp_eq x y).mp z)) (fun z => kf (fun q => z ((lg_cmp_eq x y).mpr q))))
theorem lc_ne {x y : Int64} {off : Int} {tgt : Nat} (hx : p.tables.exec = Jvm.exec) (hb : c.code = cc) (hd1 : decode cc pc = .ok (.lcmp, 1)) (hd2 : decode cc (pc + 1) = .ok (.ifCond .ne off, 3)) (ht : ((pc + 1 : Nat) : Int) + off = (tgt : Int)) (kt : ¬ x = y → W p l e R s m args below meth c H locs cells slots Q (F0 m tgt ls rest)) (kf : x = y → W p l e R s m args below meth c H locs cells slots Q (F0 m (pc + 4) ls rest)) : W p l e R s m args below meth c H locs cells slots Q (F0 m pc ls (.long y :: .long x :: rest)) := W.lcmp hx hb hd1 (lv_if_ne hx hb hd2 ht (fun z => kt (fun q => z ((lg_cmp_eq x y).mpr q))) (fun z => kf ((lg_cmp_eq x y).mp z)))
theorem lc_lt {x y : Int64} {off : Int} {tgt : Nat} (hx : p.tables.exec = Jvm.exec) (hb : c.code = cc) (hd1 : decode cc pc = .ok (.lcmp, 1)) (hd2 : decode cc (pc + 1) = .ok (.ifCond .lt off, 3)) (ht : ((pc + 1 : Nat) : Int) + off = (tgt : Int)) (kt : x < y → W p l e R s m args below meth c H locs cells slots Q (F0 m tgt ls rest)) (kf : ¬ x < y → W p l e R s m args below meth c H locs cells slots Q (F0 m (pc + 4) ls rest)) : W p l e R s m args below meth c H locs cells slots Q (F0 m pc ls (.long y :: .long x :: rest)) := W.lcmp hx hb hd1 (lv_if_lt hx hb hd2 ht (fun z => kt ((lg_cmp_lt x y).mp z)) (fun z => kf (fun q => z ((lg_cmp_lt x y).mpr q))))
theorem lc_ge {x y : Int64} {off : Int} {tgt : Nat} (hx : p.tables.exec = Jvm.exec) (hb : c.code = cc) (hd1 : decode cc pc = .ok (.lcmp, 1)) (hd2 : decode cc (pc + 1) = .ok (.ifCond .ge off, 3)) (ht : ((pc + 1 : Nat) : Int) + off = (tgt : Int)) (kt : y ≤ x → W p l e R s m args below meth c H locs cells slots Q (F0 m tgt ls rest)) (kf : ¬ y ≤ x → W p l e R s m args below meth c H locs cells slots Q (F0 m (pc + 4) ls rest)) : W p l e R s m args below meth c H locs cells slots Q (F0 m pc ls (.long y :: .long x :: rest)) := W.lcmp hx hb hd1 (lv_if_ge hx hb hd2 ht (fun z => kt ((lg_cmp_ge x y).mp z)) (fun z => kf (fun q => z ((lg_cmp_ge x y).mpr q))))
theorem lc_gt {x y : Int64} {off : Int} {tgt : Nat} (hx : p.tables.exec = Jvm.exec) (hb : c.code = cc) (hd1 : decode cc pc = .ok (.lcmp, 1)) (hd2 : decode cc (pc + 1) = .ok (.ifCond .gt off, 3)) (ht : ((pc + 1 : Nat) : Int) + off = (tgt : Int)) (kt : y < x → W p l e R s m args below meth c H locs cells slots Q (F0 m tgt ls rest)) (kf : ¬ y < x → W p l e R s m args below meth c H locs cells slots Q (F0 m (pc + 4) ls rest)) : W p l e R s m args below meth c H locs cells slots Q (F0 m pc ls (.long y :: .long x :: rest)) := W.lcmp hx hb hd1 (lv_if_gt hx hb hd2 ht (fun z => kt ((lg_cmp_gt x y).mp z)) (fun z => kf (fun q => z ((lg_cmp_gt x y).mpr q))))
theorem lc_le {x y : Int64} {off : Int} {tgt : Nat} (hx : p.tables.exec = Jvm.exec) (hb : c.code = cc) (hd1 : decode cc pc = .ok (.lcmp, 1)) (hd2 : decode cc (pc + 1) = .ok (.ifCond .le off, 3)) (ht : ((pc + 1 : Nat) : Int) + off = (tgt : Int)) (kt : x ≤ y → W p l e R s m args below meth c H locs cells slots Q (F0 m tgt ls rest)) (kf : ¬ x ≤ y → W p l e R s m args below meth c H locs cells slots Q (F0 m (pc + 4) ls rest)) : W p l e R s m args below meth c H locs cells slots Q (F0 m pc ls (.long y :: .long x :: rest)) := W.lcmp hx hb hd1 (lv_if_le hx hb hd2 ht (fun z => kt ((lg_cmp_le x y).mp z)) (fun z => kf (fun q => z ((lg_cmp_le x y).mpr q))))
end NV
section NA
variable {p : Program} {l : Launch} {e : Env} {R : Room} {s : State} {m : MethodId} {args : Array Value} {below : List Frame} {meth : Method} {c : Code} {H : Heap} {locs : List Loc} {cells slots : Nat} {Q : State → Prop}
variable {cc : ByteArray} {pc : Nat} {ls : Array Slot} {rest : List Value}
variable {D : va_G} {cl : List vw_C} {A : Nat → Prop} {a : Nat} {tys : List (ClassId × FieldType)} {ws : va_W} {H0 : Heap}
theorem na_iald (hx : p.tables.exec = Jvm.exec) (hb : c.code = cc) (hK : va_K D cl tys s) (hP : va_P D cl ws H) (q0 t0 : Nat) {cA : ClassId} {n k : Nat} {f : Nat → Int32} (ha : ws[q0]? = some (a, .inl (cA, n, .inl f))) (ht : tys[t0]? = some (cA, .int)) (hk : k < n) (hn : n < 2 ^ 31) (hdg : decode cc pc = .ok (.iaload, 1)) (kk : W p l e R s m args below meth c H locs cells slots Q (F0 m (pc + 1) ls (.int (f k) :: rest))) : W p l e R s m args below meth c H locs cells slots Q (F0 m pc ls (.int (nI k) :: .ref a :: rest)) := va_iald hx hb hK hP q0 t0 ha ht (vp_in_nI hk hn) hdg (by rw [nI_clamp (Nat.lt_trans hk hn)]; exact kk)
theorem na_zald (hx : p.tables.exec = Jvm.exec) (hb : c.code = cc) (hK : va_K D cl tys s) (hP : va_P D cl ws H) (q0 t0 : Nat) {cA : ClassId} {n k : Nat} {f : Nat → Int32} (ha : ws[q0]? = some (a, .inl (cA, n, .inl f))) (ht : tys[t0]? = some (cA, .boolean)) (hk : k < n) (hn : n < 2 ^ 31) (hdg : decode cc pc = .ok (.baload, 1)) (kk : W p l e R s m args below meth c H locs cells slots Q (F0 m (pc + 1) ls (.int (f k) :: rest))) : W p l e R s m args below meth c H locs cells slots Q (F0 m pc ls (.int (nI k) :: .ref a :: rest)) := va_zald hx hb hK hP q0 t0 ha ht (vp_in_nI hk hn) hdg (by rw [nI_clamp (Nat.lt_trans hk hn)]; exact kk)
theorem na_lald (hx : p.tables.exec = Jvm.exec) (hb : c.code = cc) (hK : va_K D cl tys s) (hP : va_P D cl ws H) (q0 t0 : Nat) {cA : ClassId} {n k : Nat} {f : Nat → Int64} (ha : ws[q0]? = some (a, .inl (cA, n, .inr (.inl f)))) (ht : tys[t0]? = some (cA, .long)) (hk : k < n) (hn : n < 2 ^ 31) (hdg : decode cc pc = .ok (.laload, 1)) (kk : W p l e R s m args below meth c H locs cells slots Q (F0 m (pc + 1) ls (.long (f k) :: rest))) : W p l e R s m args below meth c H locs cells slots Q (F0 m pc ls (.int (nI k) :: .ref a :: rest)) := va_lald hx hb hK hP q0 t0 ha ht (vp_in_nI hk hn) hdg (by rw [nI_clamp (Nat.lt_trans hk hn)]; exact kk)
theorem na_aldq (hx : p.tables.exec = Jvm.exec) (hb : c.code = cc) (hK : va_K D cl tys s) (hP : va_P D cl ws H) (q0 t0 : Nat) {cA : ClassId} {C : String} {n k : Nat} {f : Nat → Option Nat} (ha : ws[q0]? = some (a, .inl (cA, n, .inr (.inr (.inr (.inr f)))))) (ht : tys[t0]? = some (cA, .object C)) (hk : k < n) (hn : n < 2 ^ 31) (hdg : decode cc pc = .ok (.aaload, 1)) (kk : W p l e R s m args below meth c H locs cells slots Q (F0 m (pc + 1) ls (va_rf (f k) :: rest))) : W p l e R s m args below meth c H locs cells slots Q (F0 m pc ls (.int (nI k) :: .ref a :: rest)) := va_aldq hx hb hK hP q0 t0 ha ht (vp_in_nI hk hn) hdg (by rw [nI_clamp (Nat.lt_trans hk hn)]; exact kk)
theorem na_iast (hx : p.tables.exec = Jvm.exec) (hb : c.code = cc) (hK : va_K D cl tys s) (hP : va_P D cl ws H) (hD : va_D A ws) (hS : va_S A H0 H locs) (q0 t0 : Nat) {cA : ClassId} {n k : Nat} {f : Nat → Int32} (ha : ws[q0]? = some (a, .inl (cA, n, .inl f))) (ht : tys[t0]? = some (cA, .int)) {x : Int32} (hk : k < n) (hn : n < 2 ^ 31) (hdg : decode cc pc = .ok (.iastore, 1)) (kk : ∀ (H1 : Heap) (locs1 : List Loc), va_P D cl (ws.set q0 (a, .inl (cA, n, .inl (upd f k x)))) H1 → va_D A (ws.set q0 (a, .inl (cA, n, .inl (upd f k x)))) → va_S A H0 H1 locs1 → W p l e R s m args below meth c H1 locs1 cells slots Q (F0 m (pc + 1) ls rest)) : W p l e R s m args below meth c H locs cells slots Q (F0 m pc ls (.int x :: .int (nI k) :: .ref a :: rest)) := va_iast hx hb hK hP hD hS q0 t0 ha ht (vp_in_nI hk hn) hdg (by rw [nI_clamp (Nat.lt_trans hk hn)]; exact kk)
theorem nv_bool {x : Int32} (h : x = 0 ∨ x = 1) : vp_nar .boolean x = x := by rcases h with h | h <;> subst h <;> decide +kernel
theorem na_zast (hx : p.tables.exec = Jvm.exec) (hb : c.code = cc) (hK : va_K D cl tys s) (hP : va_P D cl ws H) (hD : va_D A ws) (hS : va_S A H0 H locs) (q0 t0 : Nat) {cA : ClassId} {n k : Nat} {f : Nat → Int32} (ha : ws[q0]? = some (a, .inl (cA, n, .inl f))) (ht : tys[t0]? = some (cA, .boolean)) {x : Int32} (h01 : x = 0 ∨ x = 1) (hk : k < n) (hn : n < 2 ^ 31) (hdg : decode cc pc = .ok (.bastore, 1)) (kk : ∀ (H1 : Heap) (locs1 : List Loc), va_P D cl (ws.set q0 (a, .inl (cA, n, .inl (upd f k x)))) H1 → va_D A (ws.set q0 (a, .inl (cA, n, .inl (upd f k x)))) → va_S A H0 H1 locs1 → W p l e R s m args below meth c H1 locs1 cells slots Q (F0 m (pc + 1) ls rest)) : W p l e R s m args below meth c H locs cells slots Q (F0 m pc ls (.int x :: .int (nI k) :: .ref a :: rest)) := va_zast hx hb hK hP hD hS q0 t0 ha ht (vp_in_nI hk hn) hdg (by rw [nI_clamp (Nat.lt_trans hk hn), nv_bool h01]; exact kk)
theorem na_last (hx : p.tables.exec = Jvm.exec) (hb : c.code = cc) (hK : va_K D cl tys s) (hP : va_P D cl ws H) (hD : va_D A ws) (hS : va_S A H0 H locs) (q0 t0 : Nat) {cA : ClassId} {n k : Nat} {f : Nat → Int64} (ha : ws[q0]? = some (a, .inl (cA, n, .inr (.inl f)))) (ht : tys[t0]? = some (cA, .long)) {x : Int64} (hk : k < n) (hn : n < 2 ^ 31) (hdg : decode cc pc = .ok (.lastore, 1)) (kk : ∀ (H1 : Heap) (locs1 : List Loc), va_P D cl (ws.set q0 (a, .inl (cA, n, .inr (.inl (vp_updL f k x))))) H1 → va_D A (ws.set q0 (a, .inl (cA, n, .inr (.inl (vp_updL f k x))))) → va_S A H0 H1 locs1 → W p l e R s m args below meth c H1 locs1 cells slots Q (F0 m (pc + 1) ls rest)) : W p l e R s m args below meth c H locs cells slots Q (F0 m pc ls (.long x :: .int (nI k) :: .ref a :: rest)) := va_last hx hb hK hP hD hS q0 t0 ha ht (vp_in_nI hk hn) hdg (by rw [nI_clamp (Nat.lt_trans hk hn)]; exact kk)
end NA
/-- a truth as the machine's number -/
def bI (P : Prop) [Decidable P] : Int32 := if P then 1 else 0
theorem bI_t {P : Prop} [Decidable P] (h : P) : bI P = 1 := if_pos h
theorem bI_f {P : Prop} [Decidable P] (h : ¬ P) : bI P = 0 := if_neg h
theorem bI_0 {P : Prop} [Decidable P] : bI P = 0 ↔ ¬ P := by unfold bI; split <;> simp_all
theorem bI_n0 {P : Prop} [Decidable P] : ¬ bI P = 0 ↔ P := by unfold bI; split <;> simp_all
theorem bI_01 {P : Prop} [Decidable P] : bI P = 0 ∨ bI P = 1 := by unfold bI; split <;> simp
end
section
/-! worlds as lists of worlds: a place is (which world, where in it) -/
abbrev fl (L : List va_W) : va_W := L.flatten
theorem fl_mem {D : va_G} {cl : List vw_C} {ws : va_W} {H : Heap} : va_P D cl ws H ↔ ∀ q ∈ ws, va_at D cl q H :=
  ⟨fun h q hq => by obtain ⟨i, hi⟩ := List.getElem?_of_mem hq; exact h i q hi, fun h k q hk => h q (List.mem_of_getElem? hk)⟩
theorem fl_P {D : va_G} {cl : List vw_C} {L : List va_W} {H : Heap} (h : va_P D cl (fl L) H) (k : Nat) {Y : va_W} (hk : L[k]? = some Y) : va_P D cl Y H :=
  fl_mem.mpr fun q hq => fl_mem.mp h q (List.mem_flatten.mpr ⟨Y, List.mem_of_getElem? hk, hq⟩)
theorem fl_sub {D : va_G} {cl : List vw_C} {L L' : List va_W} {H : Heap} (h : va_P D cl (fl L) H) (is : List Nat) (hs : is.filterMap (fun i => L[i]?) = L') : va_P D cl (fl L') H :=
  fl_mem.mpr fun q hq => by
    obtain ⟨Y, h1, h2⟩ := List.mem_flatten.mp hq
    subst hs
    obtain ⟨i, -, hi⟩ := List.mem_filterMap.mp h1
    exact fl_mem.mp (fl_P h i hi) q h2
theorem dD_l {A : Nat → Prop} {X Y : va_W} (h : va_D A (X ++ Y)) : va_D A X := by
  have key : ∀ (i : Nat) (q : Nat × va_E), X[i]? = some q → (X ++ Y)[i]? = some q := fun i q hi => by
    rw [List.getElem?_append_left (List.getElem?_eq_some_iff.mp hi).1]; exact hi
  exact ⟨fun i j p q hi hj => h.1 i j p q (key i p hi) (key j q hj), fun k q hk => h.2 k q (key k q hk)⟩
theorem dD_r {A : Nat → Prop} {X Y : va_W} (h : va_D A (X ++ Y)) : va_D A Y := by
  have key : ∀ (i : Nat) (q : Nat × va_E), Y[i]? = some q → (X ++ Y)[X.length + i]? = some q := fun i q hi => by
    rw [List.getElem?_append_right (Nat.le_add_right _ _), Nat.add_sub_cancel_left]; exact hi
  exact ⟨fun i j p q hi hj hx => by have := h.1 _ _ p q (key i p hi) (key j q hj) hx; omega, fun k q hk => h.2 _ q (key k q hk)⟩
theorem dD_x {A : Nat → Prop} {X Y : va_W} (h : va_D A (X ++ Y)) {p q : Nat × va_E} (hp : p ∈ X) (hq : q ∈ Y) : p.1 ≠ q.1 := by
  obtain ⟨i, hi⟩ := List.getElem?_of_mem hp
  obtain ⟨j, hj⟩ := List.getElem?_of_mem hq
  have hl := (List.getElem?_eq_some_iff.mp hi).1
  intro e
  have h1 : (X ++ Y)[i]? = some p := by rw [List.getElem?_append_left hl]; exact hi
  have h2 : (X ++ Y)[X.length + j]? = some q := by rw [List.getElem?_append_right (Nat.le_add_right _ _), Nat.add_sub_cancel_left]; exact hj
  have := h.1 _ _ _ _ h1 h2 e
  omega
theorem dD_in {A : Nat → Prop} {X : va_W} (h : va_D A X) {q : Nat × va_E} (hq : q ∈ X) : A q.1 := by
  obtain ⟨i, hi⟩ := List.getElem?_of_mem hq
  exact h.2 i q hi
theorem dD_mk {A : Nat → Prop} {X Y : va_W} (hX : va_D A X) (hY : va_D A Y) (hx : ∀ p ∈ X, ∀ q ∈ Y, p.1 ≠ q.1) : va_D A (X ++ Y) :=
  va_D.app hX hY fun _ _ p q h1 h2 => hx p (List.mem_of_getElem? h1) q (List.mem_of_getElem? h2)
/-- behind a call that has a part of the world: the rest stays -/
theorem fr_mid {A : Nat → Prop} {D : va_G} {cl : List vw_C} {X Y Y1 Z : va_W} {H H1 : Heap} (hP : va_P D cl (X ++ (Y ++ Z)) H) (hD : va_D A (X ++ (Y ++ Z)))
    (hk : ∀ q : Nat, q < H.size → ¬ va_A Y H.size q → H1[q]? = H[q]?) (hF : ∀ q, va_A Y H.size q → A q) (hP1 : va_P D cl Y1 H1) (hD1 : va_D (va_A Y H.size) Y1) : va_P D cl (X ++ (Y1 ++ Z)) H1 ∧ va_D A (X ++ (Y1 ++ Z)) := by
  have hYm : ∀ q, va_A Y H.size q → (∃ y ∈ Y, y.1 = q) ∨ H.size ≤ q := fun q h => by
    rcases h with ⟨k, e, h⟩ | h
    · exact Or.inl ⟨_, List.mem_of_getElem? h, rfl⟩
    · exact Or.inr h
  have hDYZ := dD_r hD
  have aX : ∀ x ∈ X, x.1 < H.size ∧ ¬ va_A Y H.size x.1 := fun x hx => by
    have hl := (fl_mem.mp hP x (List.mem_append.mpr (Or.inl hx))).lt
    refine ⟨hl, fun h => ?_⟩
    rcases hYm _ h with ⟨y, hy, e⟩ | h
    · exact dD_x hD hx (List.mem_append.mpr (Or.inl hy)) e.symm
    · omega
  have aZ : ∀ z ∈ Z, z.1 < H.size ∧ ¬ va_A Y H.size z.1 := fun z hz => by
    have hl := (fl_mem.mp hP z (List.mem_append.mpr (Or.inr (List.mem_append.mpr (Or.inr hz))))).lt
    refine ⟨hl, fun h => ?_⟩
    rcases hYm _ h with ⟨y, hy, e⟩ | h
    · exact dD_x hDYZ hy hz e
    · omega
  have hin1 : ∀ y ∈ Y1, va_A Y H.size y.1 := fun y hy => dD_in hD1 hy
  refine ⟨fl_mem.mpr fun q hq => ?_, dD_mk (dD_l hD) (dD_mk (hD1.weaken fun _ _ _ h => hF _ h) (dD_r hDYZ) fun y hy z hz e => (aZ z hz).2 (e ▸ hin1 y hy)) fun x hx q hq e => ?_⟩
  · rcases List.mem_append.mp hq with h | h
    · exact (fl_mem.mp hP q (List.mem_append.mpr (Or.inl h))).kept (hk q.1 (aX q h).1 (aX q h).2)
    · rcases List.mem_append.mp h with h | h
      · exact fl_mem.mp hP1 q h
      · exact (fl_mem.mp hP q (List.mem_append.mpr (Or.inr (List.mem_append.mpr (Or.inr h))))).kept (hk q.1 (aZ q h).1 (aZ q h).2)
  · rcases List.mem_append.mp hq with h | h
    · exact (aX x hx).2 (e ▸ hin1 q h)
    · exact dD_x hD hx (List.mem_append.mpr (Or.inr h)) e
theorem fl_cut {L : List va_W} {k : Nat} {Y : va_W} (hk : L[k]? = some Y) : fl L = fl (L.take k) ++ (Y ++ fl (L.drop (k + 1))) := by
  obtain ⟨hl, he⟩ := List.getElem?_eq_some_iff.mp hk
  have h1 : L = L.take k ++ (Y :: L.drop (k + 1)) := by
    rw [← he, List.getElem_cons_drop, List.take_append_drop]
  have h2 : fl L = fl (L.take k ++ (Y :: L.drop (k + 1))) := congrArg fl h1
  rw [h2]
  show List.flatten _ = _
  rw [List.flatten_append, List.flatten_cons]
theorem fl_cutS {L : List va_W} {k : Nat} {Y : va_W} (Y1 : va_W) (hk : L[k]? = some Y) : fl (L.set k Y1) = fl (L.take k) ++ (Y1 ++ fl (L.drop (k + 1))) := by
  have hl := (List.getElem?_eq_some_iff.mp hk).1
  have h1 : (L.set k Y1)[k]? = some Y1 := List.getElem?_set_self hl
  rw [fl_cut h1, List.take_set, List.drop_set]
  congr 1
  · rw [List.set_eq_of_length_le (by rw [List.length_take]; omega)]
  · rw [if_pos (by omega)]
/-- the k-th world was a call's world -/
theorem fr_k {A : Nat → Prop} {D : va_G} {cl : List vw_C} {L : List va_W} {Y Y1 : va_W} {H H1 : Heap} (hP : va_P D cl (fl L) H) (hD : va_D A (fl L)) (k : Nat) (hL : L[k]? = some Y)
    (hk : ∀ q : Nat, q < H.size → ¬ va_A Y H.size q → H1[q]? = H[q]?) (hF : ∀ q, va_A Y H.size q → A q) (hP1 : va_P D cl Y1 H1) (hD1 : va_D (va_A Y H.size) Y1) : va_P D cl (fl (L.set k Y1)) H1 ∧ va_D A (fl (L.set k Y1)) := by
  rw [fl_cutS Y1 hL]
  rw [fl_cut hL] at hP hD
  exact fr_mid hP hD hk hF hP1 hD1
theorem fl_D {A : Nat → Prop} {L : List va_W} (h : va_D A (fl L)) (k : Nat) {Y : va_W} (hk : L[k]? = some Y) : va_D A Y := by
  rw [fl_cut hk] at h
  exact dD_l (dD_r h)
theorem fl_free {A0 : Nat → Prop} {L : List va_W} {Y : va_W} {H0 H : Heap} {locs : List Loc} (hD : va_D A0 (fl L)) (hS : va_S A0 H0 H locs) (hA : ∀ q, H0.size ≤ q → A0 q) (k : Nat) (hk : L[k]? = some Y) : ∀ q, va_A Y H.size q → A0 q := by
  intro q h
  rcases h with ⟨i, e, h⟩ | h
  · exact (fl_D hD k hk).2 i (q, e) h
  · exact hA q (Nat.le_trans hS.1 h)
theorem fl_freeA {A0 : Nat → Prop} {Y : va_W} {H0 H : Heap} {locs : List Loc} (hD : va_D A0 Y) (hS : va_S A0 H0 H locs) (hA : ∀ q, H0.size ≤ q → A0 q) : ∀ q, va_A Y H.size q → A0 q := by
  intro q h
  rcases h with ⟨i, e, h⟩ | h
  · exact hD.2 i (q, e) h
  · exact hA q (Nat.le_trans hS.1 h)
/-- a cell of a world of the list, and what writing it makes of the list -/
theorem fl_at {L : List va_W} {k q0 : Nat} {Y : va_W} {x : Nat × va_E} (hk : L[k]? = some Y) (hq : Y[q0]? = some x) : ∃ i : Nat, (fl L)[i]? = some x ∧ ∀ y, (fl L).set i y = fl (L.set k (Y.set q0 y)) := by
  have hl := (List.getElem?_eq_some_iff.mp hq).1
  refine ⟨(fl (L.take k)).length + q0, ?_, fun y => ?_⟩
  · rw [fl_cut hk, List.getElem?_append_right (Nat.le_add_right _ _), Nat.add_sub_cancel_left, List.getElem?_append_left hl]
    exact hq
  · rw [fl_cutS _ hk, fl_cut hk, List.set_append_right _ _ (Nat.le_add_right _ _), Nat.add_sub_cancel_left, List.set_append_left _ _ hl]
section FV
variable {p : Program} {l : Launch} {e : Env} {R : Room} {s : State} {m : MethodId} {args : Array Value} {below : List Frame} {meth : Method} {c : Code} {H : Heap} {locs : List Loc} {cells slots : Nat} {Q : State → Prop}
variable {cc : ByteArray} {pc : Nat} {ls : Array Slot} {rest : List Value} {D : va_G} {cl : List vw_C} {A : Nat → Prop} {a : Nat} {tys : List (ClassId × FieldType)} {L : List va_W} {Y : va_W} {H0 : Heap}
theorem fv_get (hx : p.tables.exec = Jvm.exec) (hb : c.code = cc) {own ref C : String} {T : u_T} {N ci index : Nat} {Ts : List Cond} (hts : ∀ w ∈ Ts, w.before args s = true) (hin : ∀ w ∈ u_ws C T N, w ∈ Ts) (hown : s.vm.findClass own = some m.cls) (hK : va_K D cl tys s) (hP : va_P D cl (fl L) H) (kw q0 : Nat) (hL : L[kw]? = some Y) {fs : List Value} (he : Y[q0]? = some (a, .inr (ci, fs))) (hc : cl[ci]? = some (C, T, N)) (k : Nat) (hk : k < N) (hlink : (Cond.fieldLink own index ref (T k).2.1 (T k).2.2.1).before args s = true) (hsame : ∀ x, s.fieldFound? (T k).1 (T k).2.1 (T k).2.2.1 = some x → s.fieldFound? ref (T k).2.1 (T k).2.2.1 = some x) {v : Value} (hv : fs[k]? = some v) (hdg : decode cc pc = .ok (.getfield index, 3)) (kk : W p l e R s m args below meth c H locs cells slots Q (F0 m (pc + 3) ls (v :: rest))) : W p l e R s m args below meth c H locs cells slots Q (F0 m pc ls (.ref a :: rest)) := va_get hx hb hts hin hown hK (fl_P hP kw hL) q0 he hc k hk hlink hsame hv hdg kk
theorem fv_put (hx : p.tables.exec = Jvm.exec) (hb : c.code = cc) {own ref C : String} {T : u_T} {N ci index : Nat} {Ts : List Cond} (hts : ∀ w ∈ Ts, w.before args s = true) (hin : ∀ w ∈ u_ws C T N, w ∈ Ts) (ty0 : Nat → FieldType) (hty : ∀ k, k < N → parseFieldDescriptor (T k).2.2.1 = some (ty0 k)) (hnm : ∀ a, a < N → ∀ b, b < N → a ≠ b → (T a).2.1 ≠ (T b).2.1) (hown : s.vm.findClass own = some m.cls) (hK : va_K D cl tys s) (hP : va_P D cl (fl L) H) (hD : va_D A (fl L)) (hS : va_S A H0 H locs) (kw q0 : Nat) (hL : L[kw]? = some Y) {fs : List Value} (he : Y[q0]? = some (a, .inr (ci, fs))) (hc : cl[ci]? = some (C, T, N)) (k : Nat) (hk : k < N) (hlink : (Cond.fieldLink own index ref (T k).2.1 (T k).2.2.1).before args s = true) (hsame : ∀ x, s.fieldFound? (T k).1 (T k).2.1 (T k).2.2.1 = some x → s.fieldFound? ref (T k).2.1 (T k).2.2.1 = some x) (hfin : (T k).2.2.2 = false) {ty : FieldType} {v : Value} (hd : parseFieldDescriptor (T k).2.2.1 = some ty) (hn : narrow ty v = v) (hfit : fits ty v = true) (hl : k < fs.length) (hdg : decode cc pc = .ok (.putfield index, 3)) (kk : ∀ (H1 : Heap) (locs1 : List Loc), va_P D cl (fl (L.set kw (Y.set q0 (a, .inr (ci, fs.set k v))))) H1 → va_D A (fl (L.set kw (Y.set q0 (a, .inr (ci, fs.set k v))))) → va_S A H0 H1 locs1 → W p l e R s m args below meth c H1 locs1 cells slots Q (F0 m (pc + 3) ls rest)) : W p l e R s m args below meth c H locs cells slots Q (F0 m pc ls (v :: .ref a :: rest)) := by
  obtain ⟨i, h1, h2⟩ := fl_at hL he
  refine va_put hx hb hts hin ty0 hty hnm hown hK hP hD hS i h1 hc k hk hlink hsame hfin hd hn hfit hl hdg fun H1 locs1 h3 h4 h5 => ?_
  rw [h2] at h3 h4
  exact kk H1 locs1 h3 h4 h5
theorem fv_putF (hx : p.tables.exec = Jvm.exec) (hb : c.code = cc) {own ref C : String} {T : u_T} {N ci index : Nat} {Ts : List Cond} (hts : ∀ w ∈ Ts, w.before args s = true) (hin : ∀ w ∈ u_ws C T N, w ∈ Ts) (ty0 : Nat → FieldType) (hty : ∀ k, k < N → parseFieldDescriptor (T k).2.2.1 = some (ty0 k)) (hnm : ∀ a, a < N → ∀ b, b < N → a ≠ b → (T a).2.1 ≠ (T b).2.1) (hown : s.vm.findClass own = some m.cls) (hK : va_K D cl tys s) (hP : va_P D cl (fl L) H) (hD : va_D A (fl L)) (hS : va_S A H0 H locs) (kw q0 : Nat) (hL : L[kw]? = some Y) {fs : List Value} (he : Y[q0]? = some (a, .inr (ci, fs))) (hc : cl[ci]? = some (C, T, N)) (k : Nat) (hk : k < N) (hlink : (Cond.fieldLink own index ref (T k).2.1 (T k).2.2.1).before args s = true) (hsame : ∀ x, s.fieldFound? (T k).1 (T k).2.1 (T k).2.2.1 = some x → s.fieldFound? ref (T k).2.1 (T k).2.2.1 = some x) (hfin : (T k).2.2.2 = true) (hin2 : meth.name = "<init>") (hdecl : (T k).1 = own) {ty : FieldType} {v : Value} (hd : parseFieldDescriptor (T k).2.2.1 = some ty) (hn : narrow ty v = v) (hfit : fits ty v = true) (hl : k < fs.length) (hdg : decode cc pc = .ok (.putfield index, 3)) (kk : ∀ (H1 : Heap) (locs1 : List Loc), va_P D cl (fl (L.set kw (Y.set q0 (a, .inr (ci, fs.set k v))))) H1 → va_D A (fl (L.set kw (Y.set q0 (a, .inr (ci, fs.set k v))))) → va_S A H0 H1 locs1 → W p l e R s m args below meth c H1 locs1 cells slots Q (F0 m (pc + 3) ls rest)) : W p l e R s m args below meth c H locs cells slots Q (F0 m pc ls (v :: .ref a :: rest)) := by
  obtain ⟨i, h1, h2⟩ := fl_at hL he
  refine va_putF hx hb hts hin ty0 hty hnm hown hK hP hD hS i h1 hc k hk hlink hsame hfin hin2 hdecl hd hn hfit hl hdg fun H1 locs1 h3 h4 h5 => ?_
  rw [h2] at h3 h4
  exact kk H1 locs1 h3 h4 h5
theorem fv_getN (hx : p.tables.exec = Jvm.exec) (hb : c.code = cc) {own ref C : String} {T : u_T} {N ci index : Nat} {Ts : List Cond} (hts : ∀ w ∈ Ts, w.before args s = true) (hin : ∀ w ∈ u_ws C T N, w ∈ Ts) {host : String} (hown : s.vm.findClass own = some m.cls) (hK : va_K D cl tys s) (hP : va_P D cl (fl L) H) (kw q0 : Nat) (hL : L[kw]? = some Y) {fs : List Value} (he : Y[q0]? = some (a, .inr (ci, fs))) (hc : cl[ci]? = some (C, T, N)) (k : Nat) (hk : k < N) (hlink : (Cond.fieldLinkNest own index ref (T k).2.1 (T k).2.2.1 host).before args s = true) (hsame : ∀ x, s.fieldFound? (T k).1 (T k).2.1 (T k).2.2.1 = some x → s.fieldFound? ref (T k).2.1 (T k).2.2.1 = some x) {v : Value} (hv : fs[k]? = some v) (hdg : decode cc pc = .ok (.getfield index, 3)) (kk : W p l e R s m args below meth c H locs cells slots Q (F0 m (pc + 3) ls (v :: rest))) : W p l e R s m args below meth c H locs cells slots Q (F0 m pc ls (.ref a :: rest)) := va_getN hx hb hts hin hown hK (fl_P hP kw hL) q0 he hc k hk hlink hsame hv hdg kk
theorem fv_putN (hx : p.tables.exec = Jvm.exec) (hb : c.code = cc) {own ref C : String} {T : u_T} {N ci index : Nat} {Ts : List Cond} (hts : ∀ w ∈ Ts, w.before args s = true) (hin : ∀ w ∈ u_ws C T N, w ∈ Ts) {host : String} (ty0 : Nat → FieldType) (hty : ∀ k, k < N → parseFieldDescriptor (T k).2.2.1 = some (ty0 k)) (hnm : ∀ a, a < N → ∀ b, b < N → a ≠ b → (T a).2.1 ≠ (T b).2.1) (hown : s.vm.findClass own = some m.cls) (hK : va_K D cl tys s) (hP : va_P D cl (fl L) H) (hD : va_D A (fl L)) (hS : va_S A H0 H locs) (kw q0 : Nat) (hL : L[kw]? = some Y) {fs : List Value} (he : Y[q0]? = some (a, .inr (ci, fs))) (hc : cl[ci]? = some (C, T, N)) (k : Nat) (hk : k < N) (hlink : (Cond.fieldLinkNest own index ref (T k).2.1 (T k).2.2.1 host).before args s = true) (hsame : ∀ x, s.fieldFound? (T k).1 (T k).2.1 (T k).2.2.1 = some x → s.fieldFound? ref (T k).2.1 (T k).2.2.1 = some x) (hfin : (T k).2.2.2 = false) {ty : FieldType} {v : Value} (hd : parseFieldDescriptor (T k).2.2.1 = some ty) (hn : narrow ty v = v) (hfit : fits ty v = true) (hl : k < fs.length) (hdg : decode cc pc = .ok (.putfield index, 3)) (kk : ∀ (H1 : Heap) (locs1 : List Loc), va_P D cl (fl (L.set kw (Y.set q0 (a, .inr (ci, fs.set k v))))) H1 → va_D A (fl (L.set kw (Y.set q0 (a, .inr (ci, fs.set k v))))) → va_S A H0 H1 locs1 → W p l e R s m args below meth c H1 locs1 cells slots Q (F0 m (pc + 3) ls rest)) : W p l e R s m args below meth c H locs cells slots Q (F0 m pc ls (v :: .ref a :: rest)) := by
  obtain ⟨i, h1, h2⟩ := fl_at hL he
  refine va_putN hx hb hts hin ty0 hty hnm hown hK hP hD hS i h1 hc k hk hlink hsame hfin hd hn hfit hl hdg fun H1 locs1 h3 h4 h5 => ?_
  rw [h2] at h3 h4
  exact kk H1 locs1 h3 h4 h5
end FV
section FA
variable {p : Program} {l : Launch} {e : Env} {R : Room} {s : State} {m : MethodId} {args : Array Value} {below : List Frame} {meth : Method} {c : Code} {H : Heap} {locs : List Loc} {cells slots : Nat} {Q : State → Prop}
variable {cc : ByteArray} {pc : Nat} {ls : Array Slot} {rest : List Value} {D : va_G} {cl : List vw_C} {A : Nat → Prop} {a : Nat} {tys : List (ClassId × FieldType)} {L : List va_W} {Y : va_W} {H0 : Heap}
theorem fa_iald (hx : p.tables.exec = Jvm.exec) (hb : c.code = cc) (hK : va_K D cl tys s) (hP : va_P D cl (fl L) H) (kw q0 t0 : Nat) (hL : L[kw]? = some Y) {cA : ClassId} {n k : Nat} {f : Nat → Int32} (ha : Y[q0]? = some (a, .inl (cA, n, .inl f))) (ht : tys[t0]? = some (cA, .int)) (hk : k < n) (hn : n < 2 ^ 31) (hdg : decode cc pc = .ok (.iaload, 1)) (kk : W p l e R s m args below meth c H locs cells slots Q (F0 m (pc + 1) ls (.int (f k) :: rest))) : W p l e R s m args below meth c H locs cells slots Q (F0 m pc ls (.int (nI k) :: .ref a :: rest)) := na_iald hx hb hK (fl_P hP kw hL) q0 t0 ha ht hk hn hdg kk
theorem fa_zald (hx : p.tables.exec = Jvm.exec) (hb : c.code = cc) (hK : va_K D cl tys s) (hP : va_P D cl (fl L) H) (kw q0 t0 : Nat) (hL : L[kw]? = some Y) {cA : ClassId} {n k : Nat} {f : Nat → Int32} (ha : Y[q0]? = some (a, .inl (cA, n, .inl f))) (ht : tys[t0]? = some (cA, .boolean)) (hk : k < n) (hn : n < 2 ^ 31) (hdg : decode cc pc = .ok (.baload, 1)) (kk : W p l e R s m args below meth c H locs cells slots Q (F0 m (pc + 1) ls (.int (f k) :: rest))) : W p l e R s m args below meth c H locs cells slots Q (F0 m pc ls (.int (nI k) :: .ref a :: rest)) := na_zald hx hb hK (fl_P hP kw hL) q0 t0 ha ht hk hn hdg kk
theorem fa_lald (hx : p.tables.exec = Jvm.exec) (hb : c.code = cc) (hK : va_K D cl tys s) (hP : va_P D cl (fl L) H) (kw q0 t0 : Nat) (hL : L[kw]? = some Y) {cA : ClassId} {n k : Nat} {f : Nat → Int64} (ha : Y[q0]? = some (a, .inl (cA, n, .inr (.inl f)))) (ht : tys[t0]? = some (cA, .long)) (hk : k < n) (hn : n < 2 ^ 31) (hdg : decode cc pc = .ok (.laload, 1)) (kk : W p l e R s m args below meth c H locs cells slots Q (F0 m (pc + 1) ls (.long (f k) :: rest))) : W p l e R s m args below meth c H locs cells slots Q (F0 m pc ls (.int (nI k) :: .ref a :: rest)) := na_lald hx hb hK (fl_P hP kw hL) q0 t0 ha ht hk hn hdg kk
theorem fa_aldq (hx : p.tables.exec = Jvm.exec) (hb : c.code = cc) (hK : va_K D cl tys s) (hP : va_P D cl (fl L) H) (kw q0 t0 : Nat) (hL : L[kw]? = some Y) {cA : ClassId} {C : String} {n k : Nat} {f : Nat → Option Nat} (ha : Y[q0]? = some (a, .inl (cA, n, .inr (.inr (.inr (.inr f)))))) (ht : tys[t0]? = some (cA, .object C)) (hk : k < n) (hn : n < 2 ^ 31) (hdg : decode cc pc = .ok (.aaload, 1)) (kk : W p l e R s m args below meth c H locs cells slots Q (F0 m (pc + 1) ls (va_rf (f k) :: rest))) : W p l e R s m args below meth c H locs cells slots Q (F0 m pc ls (.int (nI k) :: .ref a :: rest)) := na_aldq hx hb hK (fl_P hP kw hL) q0 t0 ha ht hk hn hdg kk
theorem fa_iast (hx : p.tables.exec = Jvm.exec) (hb : c.code = cc) (hK : va_K D cl tys s) (hP : va_P D cl (fl L) H) (hD : va_D A (fl L)) (hS : va_S A H0 H locs) (kw q0 t0 : Nat) (hL : L[kw]? = some Y) {cA : ClassId} {n k : Nat} {f : Nat → Int32} (ha : Y[q0]? = some (a, .inl (cA, n, .inl f))) (ht : tys[t0]? = some (cA, .int)) {x : Int32} (hk : k < n) (hn : n < 2 ^ 31) (hdg : decode cc pc = .ok (.iastore, 1)) (kk : ∀ (H1 : Heap) (locs1 : List Loc), va_P D cl (fl (L.set kw (Y.set q0 (a, .inl (cA, n, .inl (upd f k x)))))) H1 → va_D A (fl (L.set kw (Y.set q0 (a, .inl (cA, n, .inl (upd f k x)))))) → va_S A H0 H1 locs1 → W p l e R s m args below meth c H1 locs1 cells slots Q (F0 m (pc + 1) ls rest)) : W p l e R s m args below meth c H locs cells slots Q (F0 m pc ls (.int x :: .int (nI k) :: .ref a :: rest)) := by
  obtain ⟨i, h1, h2⟩ := fl_at hL ha
  refine na_iast hx hb hK hP hD hS i t0 h1 ht hk hn hdg fun H1 locs1 h3 h4 h5 => ?_
  rw [h2] at h3 h4
  exact kk H1 locs1 h3 h4 h5
theorem fa_zast (hx : p.tables.exec = Jvm.exec) (hb : c.code = cc) (hK : va_K D cl tys s) (hP : va_P D cl (fl L) H) (hD : va_D A (fl L)) (hS : va_S A H0 H locs) (kw q0 t0 : Nat) (hL : L[kw]? = some Y) {cA : ClassId} {n k : Nat} {f : Nat → Int32} (ha : Y[q0]? = some (a, .inl (cA, n, .inl f))) (ht : tys[t0]? = some (cA, .boolean)) {x : Int32} (h01 : x = 0 ∨ x = 1) (hk : k < n) (hn : n < 2 ^ 31) (hdg : decode cc pc = .ok (.bastore, 1)) (kk : ∀ (H1 : Heap) (locs1 : List Loc), va_P D cl (fl (L.set kw (Y.set q0 (a, .inl (cA, n, .inl (upd f k x)))))) H1 → va_D A (fl (L.set kw (Y.set q0 (a, .inl (cA, n, .inl (upd f k x)))))) → va_S A H0 H1 locs1 → W p l e R s m args below meth c H1 locs1 cells slots Q (F0 m (pc + 1) ls rest)) : W p l e R s m args below meth c H locs cells slots Q (F0 m pc ls (.int x :: .int (nI k) :: .ref a :: rest)) := by
  obtain ⟨i, h1, h2⟩ := fl_at hL ha
  refine na_zast hx hb hK hP hD hS i t0 h1 ht h01 hk hn hdg fun H1 locs1 h3 h4 h5 => ?_
  rw [h2] at h3 h4
  exact kk H1 locs1 h3 h4 h5
theorem fa_last (hx : p.tables.exec = Jvm.exec) (hb : c.code = cc) (hK : va_K D cl tys s) (hP : va_P D cl (fl L) H) (hD : va_D A (fl L)) (hS : va_S A H0 H locs) (kw q0 t0 : Nat) (hL : L[kw]? = some Y) {cA : ClassId} {n k : Nat} {f : Nat → Int64} (ha : Y[q0]? = some (a, .inl (cA, n, .inr (.inl f)))) (ht : tys[t0]? = some (cA, .long)) {x : Int64} (hk : k < n) (hn : n < 2 ^ 31) (hdg : decode cc pc = .ok (.lastore, 1)) (kk : ∀ (H1 : Heap) (locs1 : List Loc), va_P D cl (fl (L.set kw (Y.set q0 (a, .inl (cA, n, .inr (.inl (vp_updL f k x))))))) H1 → va_D A (fl (L.set kw (Y.set q0 (a, .inl (cA, n, .inr (.inl (vp_updL f k x))))))) → va_S A H0 H1 locs1 → W p l e R s m args below meth c H1 locs1 cells slots Q (F0 m (pc + 1) ls rest)) : W p l e R s m args below meth c H locs cells slots Q (F0 m pc ls (.long x :: .int (nI k) :: .ref a :: rest)) := by
  obtain ⟨i, h1, h2⟩ := fl_at hL ha
  refine na_last hx hb hK hP hD hS i t0 h1 ht hk hn hdg fun H1 locs1 h3 h4 h5 => ?_
  rw [h2] at h3 h4
  exact kk H1 locs1 h3 h4 h5
end FA
end
section
/-! standard forms of contracts: a method over a world (fl L) that it may change, or only reads -/
def gPre (cl : List vw_C) (D : va_G) (tys : List (ClassId × FieldType)) (av : List Value) (w : va_W) (sz : Nat) : Array Value → State → Prop := va_Pc av (fun U => U.heap.size = sz ∧ va_P D cl w U.heap ∧ va_K D cl tys U ∧ va_D (fun _ => True) w)
def gPr (cl : List vw_C) (D : va_G) (tys : List (ClassId × FieldType)) (av : List Value) (w : va_W) : Array Value → State → Prop := va_Pc av (fun U => va_P D cl w U.heap ∧ va_K D cl tys U)
def gP0 (av : List Value) : Array Value → State → Prop := fun v _ => v = av.toArray
def gB (cl : List vw_C) (D : va_G) (tys : List (ClassId × FieldType)) (A : Nat → Prop) (w : va_W) (t : State) : Prop := va_P D cl w t.heap ∧ va_K D cl tys t ∧ va_D A w
def gQi (cl : List vw_C) (D : va_G) (tys : List (ClassId × FieldType)) (w : va_W) (sz : Nat) (f : Int32) (w1 : va_W) : Array Value → State → Outcome → State → Prop := va_Qi (fun r (_ : Unit) => r = f) (fun _ t => gB cl D tys (va_A w sz) w1 t) (va_A w sz)
def gQl (cl : List vw_C) (D : va_G) (tys : List (ClassId × FieldType)) (w : va_W) (sz : Nat) (f : Int64) (w1 : va_W) : Array Value → State → Outcome → State → Prop := va_Ql (fun r (_ : Unit) => r = f) (fun _ t => gB cl D tys (va_A w sz) w1 t) (va_A w sz)
def gQv (cl : List vw_C) (D : va_G) (tys : List (ClassId × FieldType)) (w : va_W) (sz : Nat) (w1 : va_W) : Array Value → State → Outcome → State → Prop := va_Qv (fun (_ : Unit) => True) (fun _ t => gB cl D tys (va_A w sz) w1 t) (va_A w sz)
theorem gPre_blind {cl : List vw_C} {D : va_G} {tys : List (ClassId × FieldType)} {av : List Value} {w : va_W} {sz : Nat} : FrameBlind (gPre cl D tys av w sz) := fun a U g mk q => by
  obtain ⟨q0, q1, qP, qK, qD⟩ := q
  exact ⟨q0, q1, qP, va_K.moved (u := U) (U := U.calling g mk a) (Vm.Alike.refl U.vm) qK, qD⟩
theorem gPr_blind {cl : List vw_C} {D : va_G} {tys : List (ClassId × FieldType)} {av : List Value} {w : va_W} : FrameBlind (gPr cl D tys av w) := fun a U g mk q => by
  obtain ⟨q0, qP, qK⟩ := q
  exact ⟨q0, qP, va_K.moved (u := U) (U := U.calling g mk a) (Vm.Alike.refl U.vm) qK⟩
section GP
variable {s : State} {H : Heap} {cl : List vw_C} {D : va_G} {tys : List (ClassId × FieldType)} {w : va_W} {A : Nat → Prop} {As : List Value} {C : String} {b : Addr}
theorem g_preS (hK : va_K D cl tys s) (hP : va_P D cl w H) (hD : va_D A w) : PreS s H (gPre cl D tys As w H.size) As := ⟨gPre_blind, fun U hU hW => ⟨rfl, by rw [hU], by rw [hU]; exact hP, va_K.moved hW.alike hK, hD.weaken (fun _ _ _ _ => trivial)⟩⟩
theorem g_preV (hr : ∃ cell : Cell, H[b]? = some cell ∧ cell.vm.isStatics = false ∧ s.vm.findClass C = some cell.cls) (hK : va_K D cl tys s) (hP : va_P D cl w H) (hD : va_D A w) : PreV s H C b (gPre cl D tys (.ref b :: As) w H.size) As := ⟨gPre_blind, hr, fun U hU hW => ⟨rfl, by rw [hU], by rw [hU]; exact hP, va_K.moved hW.alike hK, hD.weaken (fun _ _ _ _ => trivial)⟩⟩
theorem r_preS (hK : va_K D cl tys s) (hP : va_P D cl w H) : PreS s H (gPr cl D tys As w) As := ⟨gPr_blind, fun U hU hW => ⟨rfl, by rw [hU]; exact hP, va_K.moved hW.alike hK⟩⟩
theorem r_preV (hr : ∃ cell : Cell, H[b]? = some cell ∧ cell.vm.isStatics = false ∧ s.vm.findClass C = some cell.cls) (hK : va_K D cl tys s) (hP : va_P D cl w H) : PreV s H C b (gPr cl D tys (.ref b :: As) w) As := ⟨gPr_blind, hr, fun U hU hW => ⟨rfl, by rw [hU]; exact hP, va_K.moved hW.alike hK⟩⟩
theorem p0_preS : PreS s H (gP0 As) As := ⟨fun _ _ _ _ q => q, fun _ _ _ => rfl⟩
theorem fl_1 {Y : va_W} : fl [Y] = Y := by show Y ++ [] = Y; exact List.append_nil Y
theorem fl_D1 {L : List va_W} {Y : va_W} (hD : va_D A (fl L)) (k : Nat) (hL : L[k]? = some Y) : va_D A (fl [Y]) := by rw [fl_1]; exact fl_D hD k hL
theorem f_recv {L : List va_W} {Y : va_W} {q0 ci : Nat} {q : vw_C} {fs : List Value} (hK : va_K D cl tys s) (hP : va_P D cl (fl L) H) (kw : Nat) (hL : L[kw]? = some Y) (hc : cl[ci]? = some q) (he : Y[q0]? = some (b, .inr (ci, fs))) : ∃ cell : Cell, H[b]? = some cell ∧ cell.vm.isStatics = false ∧ s.vm.findClass q.1 = some cell.cls := va_recv hK (fl_P hP kw hL) hc he
end GP
theorem nar_b {v : Int32} (h : v = 0 ∨ v = 1) : narrow .boolean (.int v) = .int v := by rcases h with h | h <;> subst h <;> rfl
section GC
variable {p : Program} {l : Launch} {e : Env} {R : Room} {s : State} {m : MethodId} {args : Array Value} {below : List Frame} {meth : Method} {c : Code} {H : Heap} {locs : List Loc} {cells slots mc ms : Nat} {Q : State → Prop}
variable {pc : Nat} {ls : Array Slot} {rest st0 : List Value} {a : Array Value} {cl : List vw_C} {D : va_G} {tys : List (ClassId × FieldType)} {A : Nat → Prop} {L L1 : List va_W} {Y Y1 : va_W}
theorem r_calli {f : Int32} (hr : CallRun p l e R s m args below meth c H locs cells slots 0 0 (F0 m pc ls st0) rest (vp_Si (fun r => r = f) a) (fun _ => False)) (kk : W p l e R s m args below meth c H locs cells slots Q (F0 m (pc + 3) ls (.int f :: rest))) : W p l e R s m args below meth c H locs cells slots Q (F0 m pc ls st0) := vp_callSi hr (fun r h => by subst h; exact kk)
theorem g_calli {f : Int32} (hr : va_Run p l e R s m args below meth c H locs cells slots mc ms (F0 m pc ls st0) rest (gQi cl D tys (fl [Y]) H.size f (fl [Y1]) a) (va_A (fl [Y]) H.size)) (hS : va_S A s.heap H locs) (hA : ∀ q, s.heap.size ≤ q → A q) (hP : va_P D cl (fl L) H) (hD : va_D A (fl L)) (k : Nat) (hL : L[k]? = some Y) (kk : ∀ (H1 : Heap) (locs1 : List Loc), va_P D cl (fl (L.set k Y1)) H1 → va_D A (fl (L.set k Y1)) → va_S A s.heap H1 locs1 → W p l e R s m args below meth c H1 locs1 (cells + mc) (slots + ms) Q (F0 m (pc + 3) ls (.int f :: rest))) : W p l e R s m args below meth c H locs cells slots Q (F0 m pc ls st0) := by
  rw [fl_1, fl_1] at hr
  have hF := fl_free hD hS hA k hL
  refine va_calli hr hS (fun q _ h => hF q h) hF (fun r u t H1 locs1 ht hvm hw hB hz hk hS1 => ?_)
  subst hw
  obtain ⟨h1, h2⟩ := fr_k hP hD k hL hk hF (ht ▸ hB.1) hB.2.2
  exact kk H1 locs1 h1 h2 hS1
theorem g_calliA {f : Int32} (hr : va_Run p l e R s m args below meth c H locs cells slots mc ms (F0 m pc ls st0) rest (gQi cl D tys (fl L) H.size f (fl L1) a) (va_A (fl L) H.size)) (hS : va_S A s.heap H locs) (hA : ∀ q, s.heap.size ≤ q → A q) (hD : va_D A (fl L)) (kk : ∀ (H1 : Heap) (locs1 : List Loc), va_P D cl (fl L1) H1 → va_D A (fl L1) → va_S A s.heap H1 locs1 → W p l e R s m args below meth c H1 locs1 (cells + mc) (slots + ms) Q (F0 m (pc + 3) ls (.int f :: rest))) : W p l e R s m args below meth c H locs cells slots Q (F0 m pc ls st0) := by
  have hF := fl_freeA hD hS hA
  refine va_calli hr hS (fun q _ h => hF q h) hF (fun r u t H1 locs1 ht hvm hw hB hz hk hS1 => ?_)
  subst hw
  exact kk H1 locs1 (ht ▸ hB.1) (hB.2.2.weaken fun _ _ _ h => hF _ h) hS1
theorem r_calll {f : Int64} (hr : CallRun p l e R s m args below meth c H locs cells slots 0 0 (F0 m pc ls st0) rest (vp_Sl (fun r => r = f) a) (fun _ => False)) (kk : W p l e R s m args below meth c H locs cells slots Q (F0 m (pc + 3) ls (.long f :: rest))) : W p l e R s m args below meth c H locs cells slots Q (F0 m pc ls st0) := vp_callSl hr (fun r h => by subst h; exact kk)
theorem g_calll {f : Int64} (hr : va_Run p l e R s m args below meth c H locs cells slots mc ms (F0 m pc ls st0) rest (gQl cl D tys (fl [Y]) H.size f (fl [Y1]) a) (va_A (fl [Y]) H.size)) (hS : va_S A s.heap H locs) (hA : ∀ q, s.heap.size ≤ q → A q) (hP : va_P D cl (fl L) H) (hD : va_D A (fl L)) (k : Nat) (hL : L[k]? = some Y) (kk : ∀ (H1 : Heap) (locs1 : List Loc), va_P D cl (fl (L.set k Y1)) H1 → va_D A (fl (L.set k Y1)) → va_S A s.heap H1 locs1 → W p l e R s m args below meth c H1 locs1 (cells + mc) (slots + ms) Q (F0 m (pc + 3) ls (.long f :: rest))) : W p l e R s m args below meth c H locs cells slots Q (F0 m pc ls st0) := by
  rw [fl_1, fl_1] at hr
  have hF := fl_free hD hS hA k hL
  refine va_calll hr hS (fun q _ h => hF q h) hF (fun r u t H1 locs1 ht hvm hw hB hz hk hS1 => ?_)
  subst hw
  obtain ⟨h1, h2⟩ := fr_k hP hD k hL hk hF (ht ▸ hB.1) hB.2.2
  exact kk H1 locs1 h1 h2 hS1
theorem g_calllA {f : Int64} (hr : va_Run p l e R s m args below meth c H locs cells slots mc ms (F0 m pc ls st0) rest (gQl cl D tys (fl L) H.size f (fl L1) a) (va_A (fl L) H.size)) (hS : va_S A s.heap H locs) (hA : ∀ q, s.heap.size ≤ q → A q) (hD : va_D A (fl L)) (kk : ∀ (H1 : Heap) (locs1 : List Loc), va_P D cl (fl L1) H1 → va_D A (fl L1) → va_S A s.heap H1 locs1 → W p l e R s m args below meth c H1 locs1 (cells + mc) (slots + ms) Q (F0 m (pc + 3) ls (.long f :: rest))) : W p l e R s m args below meth c H locs cells slots Q (F0 m pc ls st0) := by
  have hF := fl_freeA hD hS hA
  refine va_calll hr hS (fun q _ h => hF q h) hF (fun r u t H1 locs1 ht hvm hw hB hz hk hS1 => ?_)
  subst hw
  exact kk H1 locs1 (ht ▸ hB.1) (hB.2.2.weaken fun _ _ _ h => hF _ h) hS1
theorem r_callv (hr : CallRun p l e R s m args below meth c H locs cells slots 0 0 (F0 m pc ls st0) rest (va_Sv (fun _ => True) a) (fun _ => False)) (kk : W p l e R s m args below meth c H locs cells slots Q (F0 m (pc + 3) ls (rest))) : W p l e R s m args below meth c H locs cells slots Q (F0 m pc ls st0) := va_csv hr (fun _ => kk)
theorem g_callv (hr : va_Run p l e R s m args below meth c H locs cells slots mc ms (F0 m pc ls st0) rest (gQv cl D tys (fl [Y]) H.size (fl [Y1]) a) (va_A (fl [Y]) H.size)) (hS : va_S A s.heap H locs) (hA : ∀ q, s.heap.size ≤ q → A q) (hP : va_P D cl (fl L) H) (hD : va_D A (fl L)) (k : Nat) (hL : L[k]? = some Y) (kk : ∀ (H1 : Heap) (locs1 : List Loc), va_P D cl (fl (L.set k Y1)) H1 → va_D A (fl (L.set k Y1)) → va_S A s.heap H1 locs1 → W p l e R s m args below meth c H1 locs1 (cells + mc) (slots + ms) Q (F0 m (pc + 3) ls (rest))) : W p l e R s m args below meth c H locs cells slots Q (F0 m pc ls st0) := by
  rw [fl_1, fl_1] at hr
  have hF := fl_free hD hS hA k hL
  refine va_callv hr hS (fun q _ h => hF q h) hF (fun u t H1 locs1 ht hvm hw hB hz hk hS1 => ?_)
  obtain ⟨h1, h2⟩ := fr_k hP hD k hL hk hF (ht ▸ hB.1) hB.2.2
  exact kk H1 locs1 h1 h2 hS1
theorem g_callvA (hr : va_Run p l e R s m args below meth c H locs cells slots mc ms (F0 m pc ls st0) rest (gQv cl D tys (fl L) H.size (fl L1) a) (va_A (fl L) H.size)) (hS : va_S A s.heap H locs) (hA : ∀ q, s.heap.size ≤ q → A q) (hD : va_D A (fl L)) (kk : ∀ (H1 : Heap) (locs1 : List Loc), va_P D cl (fl L1) H1 → va_D A (fl L1) → va_S A s.heap H1 locs1 → W p l e R s m args below meth c H1 locs1 (cells + mc) (slots + ms) Q (F0 m (pc + 3) ls (rest))) : W p l e R s m args below meth c H locs cells slots Q (F0 m pc ls st0) := by
  have hF := fl_freeA hD hS hA
  refine va_callv hr hS (fun q _ h => hF q h) hF (fun u t H1 locs1 ht hvm hw hB hz hk hS1 => ?_)
  exact kk H1 locs1 (ht ▸ hB.1) (hB.2.2.weaken fun _ _ _ h => hF _ h) hS1
theorem r_callq {f : Option Nat} (hr : CallRun p l e R s m args below meth c H locs cells slots 0 0 (F0 m pc ls st0) rest (va_Sq (fun r => r = f) a) (fun _ => False)) (kk : W p l e R s m args below meth c H locs cells slots Q (F0 m (pc + 3) ls (va_rf f :: rest))) : W p l e R s m args below meth c H locs cells slots Q (F0 m pc ls st0) := va_csq hr (fun r h => by subst h; exact kk)
end GC
end
section
def R_P : String := "PartShelves"
def F_P : u_T := fun k => match k with
  | 0 => ("PartShelves", "prices", "LPartShelves$PriceRows;", true)
  | 1 => ("PartShelves", "fitting", "[Z", true)
  | 2 => ("PartShelves", "parts", "Ljava/util/ArrayList;", true)
  | 3 => ("PartShelves", "asks", "Ljava/util/ArrayList;", true)
  | 4 => ("PartShelves", "jobs", "Ljava/util/ArrayList;", true)
  | 5 => ("PartShelves", "matching", "LPartShelves$Matching;", true)
  | 6 => ("PartShelves", "repairPlan", "LPartShelves$RepairPlan;", true)
  | 7 => ("PartShelves", "warrantyDays", "[I", true)
  | 8 => ("PartShelves", "toldAsSold", "[I", true)
  | 9 => ("PartShelves", "toldCount", "I", false)
  | 10 => ("PartShelves", "borrowers", "[I", true)
  | 11 => ("PartShelves", "lentUpTo", "[I", true)
  | _ => ("PartShelves", "currentDay", "I", false)
def t_P : Nat → FieldType := fun k => match k with
  | 0 => .object "PartShelves$PriceRows"
  | 1 => .array .boolean
  | 2 => .object "java/util/ArrayList"
  | 3 => .object "java/util/ArrayList"
  | 4 => .object "java/util/ArrayList"
  | 5 => .object "PartShelves$Matching"
  | 6 => .object "PartShelves$RepairPlan"
  | 7 => .array .int
  | 8 => .array .int
  | 9 => .int
  | 10 => .array .int
  | 11 => .array .int
  | _ => .int
theorem n_P : ∀ a, a < 13 → ∀ b, b < 13 → a ≠ b → (F_P a).2.1 ≠ (F_P b).2.1 := by decide +kernel
theorem t_P_ok : ∀ k, k < 13 → parseFieldDescriptor (F_P k).2.2.1 = some (t_P k) := by decide +kernel
def R_A : String := "PartShelves$Ask"
def F_A : u_T := fun k => match k with
  | 0 => ("PartShelves$Ask", "number", "I", true)
  | 1 => ("PartShelves$Ask", "product", "I", true)
  | 2 => ("PartShelves$Ask", "cents", "J", true)
  | 3 => ("PartShelves$Ask", "minute", "J", true)
  | _ => ("PartShelves$Ask", "open", "Z", false)
def t_A : Nat → FieldType := fun k => match k with
  | 0 => .int
  | 1 => .int
  | 2 => .long
  | 3 => .long
  | _ => .boolean
theorem n_A : ∀ a, a < 5 → ∀ b, b < 5 → a ≠ b → (F_A a).2.1 ≠ (F_A b).2.1 := by decide +kernel
theorem t_A_ok : ∀ k, k < 5 → parseFieldDescriptor (F_A k).2.2.1 = some (t_A k) := by decide +kernel
def R_J : String := "PartShelves$Job"
def F_J : u_T := fun k => match k with
  | _ => ("PartShelves$Job", "needs", "[I", true)
def t_J : Nat → FieldType := fun k => match k with
  | _ => .array .int
theorem n_J : ∀ a, a < 1 → ∀ b, b < 1 → a ≠ b → (F_J a).2.1 ≠ (F_J b).2.1 := by decide +kernel
theorem t_J_ok : ∀ k, k < 1 → parseFieldDescriptor (F_J k).2.2.1 = some (t_J k) := by decide +kernel
def R_M : String := "PartShelves$Matching"
def F_M : u_T := fun k => match k with
  | 0 => ("PartShelves$Matching", "shares", "[J", true)
  | 1 => ("PartShelves$Matching", "best", "[J", true)
  | 2 => ("PartShelves$Matching", "optionBits", "[I", true)
  | 3 => ("PartShelves$Matching", "optionShares", "[J", true)
  | 4 => ("PartShelves$Matching", "optionCount", "I", false)
  | 5 => ("PartShelves$Matching", "askByRank", "[I", true)
  | 6 => ("PartShelves$Matching", "given", "[I", true)
  | 7 => ("PartShelves$Matching", "partGains", "[J", true)
  | 8 => ("PartShelves$Matching", "askGains", "[J", true)
  | 9 => ("PartShelves$Matching", "partCount", "I", false)
  | 10 => ("PartShelves$Matching", "askCount", "I", false)
  | 11 => ("PartShelves$Matching", "pairCount", "I", false)
  | _ => ("PartShelves$Matching", "total", "J", false)
def t_M : Nat → FieldType := fun k => match k with
  | 0 => .array .long
  | 1 => .array .long
  | 2 => .array .int
  | 3 => .array .long
  | 4 => .int
  | 5 => .array .int
  | 6 => .array .int
  | 7 => .array .long
  | 8 => .array .long
  | 9 => .int
  | 10 => .int
  | 11 => .int
  | _ => .long
theorem n_M : ∀ a, a < 13 → ∀ b, b < 13 → a ≠ b → (F_M a).2.1 ≠ (F_M b).2.1 := by decide +kernel
theorem t_M_ok : ∀ k, k < 13 → parseFieldDescriptor (F_M k).2.2.1 = some (t_M k) := by decide +kernel
def R_Q : String := "PartShelves$Part"
def F_Q : u_T := fun k => match k with
  | 0 => ("PartShelves$Part", "kind", "I", true)
  | 1 => ("PartShelves$Part", "age", "I", true)
  | 2 => ("PartShelves$Part", "serial", "J", true)
  | 3 => ("PartShelves$Part", "state", "I", false)
  | 4 => ("PartShelves$Part", "day", "I", false)
  | 5 => ("PartShelves$Part", "holder", "I", false)
  | _ => ("PartShelves$Part", "person", "I", false)
def t_Q : Nat → FieldType := fun k => match k with
  | 0 => .int
  | 1 => .int
  | 2 => .long
  | 3 => .int
  | 4 => .int
  | 5 => .int
  | _ => .int
theorem n_Q : ∀ a, a < 7 → ∀ b, b < 7 → a ≠ b → (F_Q a).2.1 ≠ (F_Q b).2.1 := by decide +kernel
theorem t_Q_ok : ∀ k, k < 7 → parseFieldDescriptor (F_Q k).2.2.1 = some (t_Q k) := by decide +kernel
def R_R : String := "PartShelves$PriceRows"
def F_R : u_T := fun k => match k with
  | 0 => ("PartShelves$PriceRows", "ages", "[I", true)
  | 1 => ("PartShelves$PriceRows", "cents", "[J", true)
  | _ => ("PartShelves$PriceRows", "count", "I", false)
def t_R : Nat → FieldType := fun k => match k with
  | 0 => .array .int
  | 1 => .array .long
  | _ => .int
theorem n_R : ∀ a, a < 3 → ∀ b, b < 3 → a ≠ b → (F_R a).2.1 ≠ (F_R b).2.1 := by decide +kernel
theorem t_R_ok : ∀ k, k < 3 → parseFieldDescriptor (F_R k).2.2.1 = some (t_R k) := by decide +kernel
def R_N : String := "PartShelves$RepairPlan"
def F_N : u_T := fun k => match k with
  | 0 => ("PartShelves$RepairPlan", "freePrices", "[[J", true)
  | 1 => ("PartShelves$RepairPlan", "freeCounts", "[I", true)
  | 2 => ("PartShelves$RepairPlan", "total", "J", false)
  | _ => ("PartShelves$RepairPlan", "chosen", "I", false)
def t_N : Nat → FieldType := fun k => match k with
  | 0 => .array (.array .long)
  | 1 => .array .int
  | 2 => .long
  | _ => .int
theorem n_N : ∀ a, a < 4 → ∀ b, b < 4 → a ≠ b → (F_N a).2.1 ≠ (F_N b).2.1 := by decide +kernel
theorem t_N_ok : ∀ k, k < 4 → parseFieldDescriptor (F_N k).2.2.1 = some (t_N k) := by decide +kernel
def R_O : String := "PartShelvesModel"
def F_O : u_T := fun k => match k with
  | 0 => ("PartShelvesModel", "today", "I", false)
  | 1 => ("PartShelvesModel", "rows", "I", false)
  | 2 => ("PartShelvesModel", "rowAges", "[I", true)
  | 3 => ("PartShelvesModel", "rowCents", "[J", true)
  | 4 => ("PartShelvesModel", "fits", "[Z", true)
  | 5 => ("PartShelvesModel", "parts", "I", false)
  | 6 => ("PartShelvesModel", "kinds", "[I", true)
  | 7 => ("PartShelvesModel", "ages", "[I", true)
  | 8 => ("PartShelvesModel", "serials", "[J", true)
  | 9 => ("PartShelvesModel", "states", "[I", true)
  | 10 => ("PartShelvesModel", "whose", "[I", true)
  | 11 => ("PartShelvesModel", "days", "[I", true)
  | 12 => ("PartShelvesModel", "asks", "I", false)
  | 13 => ("PartShelvesModel", "products", "[I", true)
  | 14 => ("PartShelvesModel", "cents", "[J", true)
  | 15 => ("PartShelvesModel", "minutes", "[J", true)
  | 16 => ("PartShelvesModel", "served", "[Z", true)
  | 17 => ("PartShelvesModel", "jobs", "I", false)
  | 18 => ("PartShelvesModel", "needed", "[I", true)
  | 19 => ("PartShelvesModel", "warranties", "[I", true)
  | 20 => ("PartShelvesModel", "tellCount", "I", false)
  | 21 => ("PartShelvesModel", "tells", "[I", true)
  | 22 => ("PartShelvesModel", "lent", "[Z", true)
  | 23 => ("PartShelvesModel", "lentTo", "[I", true)
  | 24 => ("PartShelvesModel", "lentDay", "[I", true)
  | 25 => ("PartShelvesModel", "isMatched", "Z", false)
  | 26 => ("PartShelvesModel", "foundWorth", "J", false)
  | 27 => ("PartShelvesModel", "given", "[I", true)
  | 28 => ("PartShelvesModel", "gainParts", "I", false)
  | 29 => ("PartShelvesModel", "gainAsks", "I", false)
  | 30 => ("PartShelvesModel", "gains", "[J", true)
  | 31 => ("PartShelvesModel", "isPlanned", "Z", false)
  | 32 => ("PartShelvesModel", "foundCost", "J", false)
  | 33 => ("PartShelvesModel", "foundJobs", "I", false)
  | 34 => ("PartShelvesModel", "order", "[I", true)
  | _ => ("PartShelvesModel", "brings", "[J", true)
def t_O : Nat → FieldType := fun k => match k with
  | 0 => .int
  | 1 => .int
  | 2 => .array .int
  | 3 => .array .long
  | 4 => .array .boolean
  | 5 => .int
  | 6 => .array .int
  | 7 => .array .int
  | 8 => .array .long
  | 9 => .array .int
  | 10 => .array .int
  | 11 => .array .int
  | 12 => .int
  | 13 => .array .int
  | 14 => .array .long
  | 15 => .array .long
  | 16 => .array .boolean
  | 17 => .int
  | 18 => .array .int
  | 19 => .array .int
  | 20 => .int
  | 21 => .array .int
  | 22 => .array .boolean
  | 23 => .array .int
  | 24 => .array .int
  | 25 => .boolean
  | 26 => .long
  | 27 => .array .int
  | 28 => .int
  | 29 => .int
  | 30 => .array .long
  | 31 => .boolean
  | 32 => .long
  | 33 => .int
  | 34 => .array .int
  | _ => .array .long
theorem n_O : ∀ a, a < 36 → ∀ b, b < 36 → a ≠ b → (F_O a).2.1 ≠ (F_O b).2.1 := by decide +kernel
theorem t_O_ok : ∀ k, k < 36 → parseFieldDescriptor (F_O k).2.2.1 = some (t_O k) := by decide +kernel
def R_L : String := "java/util/ArrayList"
def F_L : u_T := fun k => match k with
  | 0 => ("java/util/AbstractList", "modCount", "I", false)
  | 1 => ("java/util/ArrayList", "elementData", "[Ljava/lang/Object;", false)
  | _ => ("java/util/ArrayList", "size", "I", false)
def t_L : Nat → FieldType := fun k => match k with
  | 0 => .int
  | 1 => .array (.object "java/lang/Object")
  | _ => .int
theorem n_L : ∀ a, a < 3 → ∀ b, b < 3 → a ≠ b → (F_L a).2.1 ≠ (F_L b).2.1 := by decide +kernel
theorem t_L_ok : ∀ k, k < 3 → parseFieldDescriptor (F_L k).2.2.1 = some (t_L k) := by decide +kernel
abbrev cls : List vw_C := [(R_P, F_P, 13), (R_A, F_A, 5), (R_J, F_J, 1), (R_M, F_M, 13), (R_Q, F_Q, 7), (R_R, F_R, 3), (R_N, F_N, 4), (R_O, F_O, 36), (R_L, F_L, 3)]
/-- the array classes that the worlds hold, by numbers: int, long, boolean, Object, long[] -/
abbrev tyL (kC : Nat → ClassId) : List (ClassId × FieldType) := [(kC 0, .int), (kC 1, .long), (kC 2, .boolean), (kC 3, .object "java/lang/Object"), (kC 4, .array .long)]
end
