section
-- ===== PART A: goes FIRST, ahead of the names: the tables' words, and 'selects' of the private methods out of them =====
/-- a private method of a class that the tables say can be made, by its rows of tables_1 -/
def lw_okq (q : MethodName × Nat) : Prop := (q.1.cls ≠ "java/lang/invoke/MethodHandle" ∧ q.1.cls ≠ "java/lang/invoke/VarHandle") ∧ Cond.instantiable q.1.cls q.2 ∈ tables_1 ∧ Cond.privateMethod q.1 ∈ tables_1 ∧ Cond.instanceMethod q.1 ∈ tables_1
theorem lw_p0 : lw_okq (⟨"PartShelves", "isDayFromToday", "(I)Z"⟩, 13) := ⟨⟨by decide +kernel, by decide +kernel⟩, List.mem_of_getElem? (i := 20) (by decide +kernel), List.mem_of_getElem? (i := 189) (by decide +kernel), List.mem_of_getElem? (i := 190) (by decide +kernel)⟩
theorem lw_p1 : lw_okq (⟨"java/util/ArrayList", "add", "(Ljava/lang/Object;[Ljava/lang/Object;I)V"⟩, 3) := ⟨⟨by decide +kernel, by decide +kernel⟩, List.mem_of_getElem? (i := 46) (by decide +kernel), List.mem_of_getElem? (i := 265) (by decide +kernel), List.mem_of_getElem? (i := 266) (by decide +kernel)⟩
theorem lw_p2 : lw_okq (⟨"java/util/ArrayList", "grow", "()[Ljava/lang/Object;"⟩, 3) := ⟨⟨by decide +kernel, by decide +kernel⟩, List.mem_of_getElem? (i := 46) (by decide +kernel), List.mem_of_getElem? (i := 269) (by decide +kernel), List.mem_of_getElem? (i := 270) (by decide +kernel)⟩
theorem lw_p3 : lw_okq (⟨"java/util/ArrayList", "grow", "(I)[Ljava/lang/Object;"⟩, 3) := ⟨⟨by decide +kernel, by decide +kernel⟩, List.mem_of_getElem? (i := 46) (by decide +kernel), List.mem_of_getElem? (i := 273) (by decide +kernel), List.mem_of_getElem? (i := 274) (by decide +kernel)⟩
theorem lw_p4 : lw_okq (⟨"PartShelves", "partAt", "(I)LPartShelves$Part;"⟩, 13) := ⟨⟨by decide +kernel, by decide +kernel⟩, List.mem_of_getElem? (i := 20) (by decide +kernel), List.mem_of_getElem? (i := 321) (by decide +kernel), List.mem_of_getElem? (i := 322) (by decide +kernel)⟩
theorem lw_p5 : lw_okq (⟨"PartShelves", "askAt", "(I)LPartShelves$Ask;"⟩, 13) := ⟨⟨by decide +kernel, by decide +kernel⟩, List.mem_of_getElem? (i := 20) (by decide +kernel), List.mem_of_getElem? (i := 387) (by decide +kernel), List.mem_of_getElem? (i := 388) (by decide +kernel)⟩
theorem lw_p6 : lw_okq (⟨"PartShelves", "rankOf", "(LPartShelves$Ask;)I"⟩, 13) := ⟨⟨by decide +kernel, by decide +kernel⟩, List.mem_of_getElem? (i := 20) (by decide +kernel), List.mem_of_getElem? (i := 403) (by decide +kernel), List.mem_of_getElem? (i := 404) (by decide +kernel)⟩
theorem lw_p7 : lw_okq (⟨"PartShelves", "pairWorth", "(LPartShelves$Part;LPartShelves$Ask;)J"⟩, 13) := ⟨⟨by decide +kernel, by decide +kernel⟩, List.mem_of_getElem? (i := 20) (by decide +kernel), List.mem_of_getElem? (i := 415) (by decide +kernel), List.mem_of_getElem? (i := 416) (by decide +kernel)⟩
theorem lw_p8 : lw_okq (⟨"PartShelves$Matching", "turnWorthsIntoShares", "()V"⟩, 13) := ⟨⟨by decide +kernel, by decide +kernel⟩, List.mem_of_getElem? (i := 73) (by decide +kernel), List.mem_of_getElem? (i := 432) (by decide +kernel), List.mem_of_getElem? (i := 433) (by decide +kernel)⟩
theorem lw_p9 : lw_okq (⟨"PartShelves$Matching", "weighSets", "(IIII)V"⟩, 13) := ⟨⟨by decide +kernel, by decide +kernel⟩, List.mem_of_getElem? (i := 73) (by decide +kernel), List.mem_of_getElem? (i := 438) (by decide +kernel), List.mem_of_getElem? (i := 439) (by decide +kernel)⟩
theorem lw_p10 : lw_okq (⟨"PartShelves$Matching", "collectOptions", "(III)V"⟩, 13) := ⟨⟨by decide +kernel, by decide +kernel⟩, List.mem_of_getElem? (i := 73) (by decide +kernel), List.mem_of_getElem? (i := 442) (by decide +kernel), List.mem_of_getElem? (i := 443) (by decide +kernel)⟩
theorem lw_p11 : lw_okq (⟨"PartShelves$Matching", "addRow", "(I)V"⟩, 13) := ⟨⟨by decide +kernel, by decide +kernel⟩, List.mem_of_getElem? (i := 73) (by decide +kernel), List.mem_of_getElem? (i := 446) (by decide +kernel), List.mem_of_getElem? (i := 447) (by decide +kernel)⟩
theorem lw_p12 : lw_okq (⟨"PartShelves$Matching", "readGiven", "(J)V"⟩, 13) := ⟨⟨by decide +kernel, by decide +kernel⟩, List.mem_of_getElem? (i := 73) (by decide +kernel), List.mem_of_getElem? (i := 453) (by decide +kernel), List.mem_of_getElem? (i := 454) (by decide +kernel)⟩
theorem lw_p13 : lw_okq (⟨"PartShelves$Matching", "readGains", "([JI)V"⟩, 13) := ⟨⟨by decide +kernel, by decide +kernel⟩, List.mem_of_getElem? (i := 73) (by decide +kernel), List.mem_of_getElem? (i := 457) (by decide +kernel), List.mem_of_getElem? (i := 458) (by decide +kernel)⟩
theorem lw_p14 : lw_okq (⟨"PartShelves$RepairPlan", "costOfSet", "(ILjava/util/ArrayList;)J"⟩, 4) := ⟨⟨by decide +kernel, by decide +kernel⟩, List.mem_of_getElem? (i := 121) (by decide +kernel), List.mem_of_getElem? (i := 541) (by decide +kernel), List.mem_of_getElem? (i := 542) (by decide +kernel)⟩
theorem lw_p15 : lw_okq (⟨"PartShelves", "recallOne", "(ILPartShelves$Part;)V"⟩, 13) := ⟨⟨by decide +kernel, by decide +kernel⟩, List.mem_of_getElem? (i := 20) (by decide +kernel), List.mem_of_getElem? (i := 574) (by decide +kernel), List.mem_of_getElem? (i := 575) (by decide +kernel)⟩
def lw_privs_1 : List (MethodName × Nat) := [(⟨"PartShelves", "isDayFromToday", "(I)Z"⟩, 13), (⟨"java/util/ArrayList", "add", "(Ljava/lang/Object;[Ljava/lang/Object;I)V"⟩, 3), (⟨"java/util/ArrayList", "grow", "()[Ljava/lang/Object;"⟩, 3), (⟨"java/util/ArrayList", "grow", "(I)[Ljava/lang/Object;"⟩, 3), (⟨"PartShelves", "partAt", "(I)LPartShelves$Part;"⟩, 13), (⟨"PartShelves", "askAt", "(I)LPartShelves$Ask;"⟩, 13), (⟨"PartShelves", "rankOf", "(LPartShelves$Ask;)I"⟩, 13), (⟨"PartShelves", "pairWorth", "(LPartShelves$Part;LPartShelves$Ask;)J"⟩, 13), (⟨"PartShelves$Matching", "turnWorthsIntoShares", "()V"⟩, 13), (⟨"PartShelves$Matching", "weighSets", "(IIII)V"⟩, 13), (⟨"PartShelves$Matching", "collectOptions", "(III)V"⟩, 13), (⟨"PartShelves$Matching", "addRow", "(I)V"⟩, 13), (⟨"PartShelves$Matching", "readGiven", "(J)V"⟩, 13), (⟨"PartShelves$Matching", "readGains", "([JI)V"⟩, 13), (⟨"PartShelves$RepairPlan", "costOfSet", "(ILjava/util/ArrayList;)J"⟩, 4), (⟨"PartShelves", "recallOne", "(ILPartShelves$Part;)V"⟩, 13)]
theorem lw_r1 : ∀ q ∈ lw_privs_1, lw_okq q := List.forall_mem_cons.mpr ⟨lw_p0, List.forall_mem_cons.mpr ⟨lw_p1, List.forall_mem_cons.mpr ⟨lw_p2, List.forall_mem_cons.mpr ⟨lw_p3, List.forall_mem_cons.mpr ⟨lw_p4, List.forall_mem_cons.mpr ⟨lw_p5, List.forall_mem_cons.mpr ⟨lw_p6, List.forall_mem_cons.mpr ⟨lw_p7, List.forall_mem_cons.mpr ⟨lw_p8, List.forall_mem_cons.mpr ⟨lw_p9, List.forall_mem_cons.mpr ⟨lw_p10, List.forall_mem_cons.mpr ⟨lw_p11, List.forall_mem_cons.mpr ⟨lw_p12, List.forall_mem_cons.mpr ⟨lw_p13, List.forall_mem_cons.mpr ⟨lw_p14, List.forall_mem_cons.mpr ⟨lw_p15, fun _ h => absurd h List.not_mem_nil⟩⟩⟩⟩⟩⟩⟩⟩⟩⟩⟩⟩⟩⟩⟩⟩
theorem lw_p16 : lw_okq (⟨"PartShelvesModel", "isPart", "(I)Z"⟩, 36) := ⟨⟨by decide +kernel, by decide +kernel⟩, List.mem_of_getElem? (i := 597) (by decide +kernel), List.mem_of_getElem? (i := 741) (by decide +kernel), List.mem_of_getElem? (i := 742) (by decide +kernel)⟩
theorem lw_p17 : lw_okq (⟨"PartShelvesModel", "priceOf", "(I)J"⟩, 36) := ⟨⟨by decide +kernel, by decide +kernel⟩, List.mem_of_getElem? (i := 597) (by decide +kernel), List.mem_of_getElem? (i := 745) (by decide +kernel), List.mem_of_getElem? (i := 746) (by decide +kernel)⟩
theorem lw_p18 : lw_okq (⟨"PartShelvesModel", "stateOf", "(I)I"⟩, 36) := ⟨⟨by decide +kernel, by decide +kernel⟩, List.mem_of_getElem? (i := 597) (by decide +kernel), List.mem_of_getElem? (i := 754) (by decide +kernel), List.mem_of_getElem? (i := 755) (by decide +kernel)⟩
theorem lw_p19 : lw_okq (⟨"PartShelvesModel", "isOpen", "(I)Z"⟩, 36) := ⟨⟨by decide +kernel, by decide +kernel⟩, List.mem_of_getElem? (i := 597) (by decide +kernel), List.mem_of_getElem? (i := 767) (by decide +kernel), List.mem_of_getElem? (i := 768) (by decide +kernel)⟩
theorem lw_p20 : lw_okq (⟨"PartShelvesModel", "sortAsks", "()I"⟩, 36) := ⟨⟨by decide +kernel, by decide +kernel⟩, List.mem_of_getElem? (i := 597) (by decide +kernel), List.mem_of_getElem? (i := 775) (by decide +kernel), List.mem_of_getElem? (i := 776) (by decide +kernel)⟩
theorem lw_p21 : lw_okq (⟨"PartShelvesModel", "greatest", "(III)J"⟩, 36) := ⟨⟨by decide +kernel, by decide +kernel⟩, List.mem_of_getElem? (i := 597) (by decide +kernel), List.mem_of_getElem? (i := 779) (by decide +kernel), List.mem_of_getElem? (i := 780) (by decide +kernel)⟩
theorem lw_p22 : lw_okq (⟨"PartShelvesModel", "isPair", "(II)Z"⟩, 36) := ⟨⟨by decide +kernel, by decide +kernel⟩, List.mem_of_getElem? (i := 597) (by decide +kernel), List.mem_of_getElem? (i := 783) (by decide +kernel), List.mem_of_getElem? (i := 784) (by decide +kernel)⟩
theorem lw_p23 : lw_okq (⟨"PartShelvesModel", "partFor", "(II)I"⟩, 36) := ⟨⟨by decide +kernel, by decide +kernel⟩, List.mem_of_getElem? (i := 597) (by decide +kernel), List.mem_of_getElem? (i := 787) (by decide +kernel), List.mem_of_getElem? (i := 788) (by decide +kernel)⟩
theorem lw_p24 : lw_okq (⟨"PartShelvesModel", "costOfJobs", "(I)J"⟩, 36) := ⟨⟨by decide +kernel, by decide +kernel⟩, List.mem_of_getElem? (i := 597) (by decide +kernel), List.mem_of_getElem? (i := 823) (by decide +kernel), List.mem_of_getElem? (i := 824) (by decide +kernel)⟩
theorem lw_p25 : lw_okq (⟨"PartShelvesModel", "costOf", "(II)J"⟩, 36) := ⟨⟨by decide +kernel, by decide +kernel⟩, List.mem_of_getElem? (i := 597) (by decide +kernel), List.mem_of_getElem? (i := 827) (by decide +kernel), List.mem_of_getElem? (i := 828) (by decide +kernel)⟩
theorem lw_p26 : lw_okq (⟨"PartShelvesModel", "sizeOf", "(I)I"⟩, 36) := ⟨⟨by decide +kernel, by decide +kernel⟩, List.mem_of_getElem? (i := 597) (by decide +kernel), List.mem_of_getElem? (i := 831) (by decide +kernel), List.mem_of_getElem? (i := 832) (by decide +kernel)⟩
def lw_privs_2 : List (MethodName × Nat) := [(⟨"PartShelvesModel", "isPart", "(I)Z"⟩, 36), (⟨"PartShelvesModel", "priceOf", "(I)J"⟩, 36), (⟨"PartShelvesModel", "stateOf", "(I)I"⟩, 36), (⟨"PartShelvesModel", "isOpen", "(I)Z"⟩, 36), (⟨"PartShelvesModel", "sortAsks", "()I"⟩, 36), (⟨"PartShelvesModel", "greatest", "(III)J"⟩, 36), (⟨"PartShelvesModel", "isPair", "(II)Z"⟩, 36), (⟨"PartShelvesModel", "partFor", "(II)I"⟩, 36), (⟨"PartShelvesModel", "costOfJobs", "(I)J"⟩, 36), (⟨"PartShelvesModel", "costOf", "(II)J"⟩, 36), (⟨"PartShelvesModel", "sizeOf", "(I)I"⟩, 36)]
theorem lw_r2 : ∀ q ∈ lw_privs_2, lw_okq q := List.forall_mem_cons.mpr ⟨lw_p16, List.forall_mem_cons.mpr ⟨lw_p17, List.forall_mem_cons.mpr ⟨lw_p18, List.forall_mem_cons.mpr ⟨lw_p19, List.forall_mem_cons.mpr ⟨lw_p20, List.forall_mem_cons.mpr ⟨lw_p21, List.forall_mem_cons.mpr ⟨lw_p22, List.forall_mem_cons.mpr ⟨lw_p23, List.forall_mem_cons.mpr ⟨lw_p24, List.forall_mem_cons.mpr ⟨lw_p25, List.forall_mem_cons.mpr ⟨lw_p26, fun _ h => absurd h List.not_mem_nil⟩⟩⟩⟩⟩⟩⟩⟩⟩⟩⟩
def lw_privs : List (MethodName × Nat) := lw_privs_1 ++ (lw_privs_2)
def lw_tbl : List Cond := k2_sels lw_privs ++ tables_1
theorem lw_privs_ok : ∀ q ∈ lw_privs, lw_okq q := by
  show ∀ q ∈ lw_privs_1 ++ (lw_privs_2), lw_okq q
  exact List.forall_mem_append.mpr ⟨lw_r1, lw_r2⟩
end
section
/-! own rows: numbers that are naturals, branches over them, arrays by natural places -/
section NV
variable {p : Program} {l : Launch} {e : Env} {R : Room} {s : State} {m : MethodId} {args : Array Value} {below : List Frame} {meth : Method} {c : Code} {H : Heap} {locs : List Loc} {cells slots : Nat} {Q : State → Prop}
variable {cc : ByteArray} {pc : Nat} {ls : Array Slot} {rest : List Value}
theorem nv_topi {x y : Int32} (h : x = y) (k : W p l e R s m args below meth c H locs cells slots Q (F0 m pc ls (.int y :: rest))) : W p l e R s m args below meth c H locs cells slots Q (F0 m pc ls (.int x :: rest)) := by subst h; exact k
theorem nv_topl {x y : Int64} (h : x = y) (k : W p l e R s m args below meth c H locs cells slots Q (F0 m pc ls (.long y :: rest))) : W p l e R s m args below meth c H locs cells slots Q (F0 m pc ls (.long x :: rest)) := by subst h; exact k
theorem nv_iadd {a b : Nat} (hx : p.tables.exec = Jvm.exec) (hb : c.code = cc) (hdg : decode cc pc = .ok (.iadd, 1)) (k : W p l e R s m args below meth c H locs cells slots Q (F0 m (pc + 1) ls (.int (nI (a + b)) :: rest))) : W p l e R s m args below meth c H locs cells slots Q (F0 m pc ls (.int (nI b) :: .int (nI a) :: rest)) := lv_iadd hx hb hdg (by rw [nI_add]; exact k)
theorem nv_isub {a b : Nat} (hx : p.tables.exec = Jvm.exec) (hb : c.code = cc) (hdg : decode cc pc = .ok (.isub, 1)) (h : b ≤ a) (k : W p l e R s m args below meth c H locs cells slots Q (F0 m (pc + 1) ls (.int (nI (a - b)) :: rest))) : W p l e R s m args below meth c H locs cells slots Q (F0 m pc ls (.int (nI b) :: .int (nI a) :: rest)) := lv_isub hx hb hdg (by rw [pk_sub h]; exact k)
theorem nv_imul {a b : Nat} (hx : p.tables.exec = Jvm.exec) (hb : c.code = cc) (hdg : decode cc pc = .ok (.imul, 1)) (k : W p l e R s m args below meth c H locs cells slots Q (F0 m (pc + 1) ls (.int (nI (a * b)) :: rest))) : W p l e R s m args below meth c H locs cells slots Q (F0 m pc ls (.int (nI b) :: .int (nI a) :: rest)) := lv_imul hx hb hdg (by rw [pk_mul]; exact k)
theorem nv_ladd {a b : Nat} (hx : p.tables.exec = Jvm.exec) (hb : c.code = cc) (hdg : decode cc pc = .ok (.ladd, 1)) (k : W p l e R s m args below meth c H locs cells slots Q (F0 m (pc + 1) ls (.long (lN (a + b)) :: rest))) : W p l e R s m args below meth c H locs cells slots Q (F0 m pc ls (.long (lN b) :: .long (lN a) :: rest)) := lv_ladd hx hb hdg (by rw [lN_add]; exact k)
theorem nv_lsub {a b : Nat} (hx : p.tables.exec = Jvm.exec) (hb : c.code = cc) (hdg : decode cc pc = .ok (.lsub, 1)) (h : b ≤ a) (k : W p l e R s m args below meth c H locs cells slots Q (F0 m (pc + 1) ls (.long (lN (a - b)) :: rest))) : W p l e R s m args below meth c H locs cells slots Q (F0 m pc ls (.long (lN b) :: .long (lN a) :: rest)) := lv_lsub hx hb hdg (by rw [lN_sub h]; exact k)
theorem nv_lmul {a b : Nat} (hx : p.tables.exec = Jvm.exec) (hb : c.code = cc) (hdg : decode cc pc = .ok (.lmul, 1)) (k : W p l e R s m args below meth c H locs cells slots Q (F0 m (pc + 1) ls (.long (lN (a * b)) :: rest))) : W p l e R s m args below meth c H locs cells slots Q (F0 m pc ls (.long (lN b) :: .long (lN a) :: rest)) := lv_lmul hx hb hdg (by rw [lN_mul]; exact k)
theorem nv_i2l {a : Nat} (hx : p.tables.exec = Jvm.exec) (hb : c.code = cc) (hdg : decode cc pc = .ok (.i2l, 1)) (h : a < 2 ^ 31) (k : W p l e R s m args below meth c H locs cells slots Q (F0 m (pc + 1) ls (.long (lN a) :: rest))) : W p l e R s m args below meth c H locs cells slots Q (F0 m pc ls (.int (nI a) :: rest)) := lv_i2l hx hb hdg (nI_l h) k
theorem nv_l2i {a : Nat} (hx : p.tables.exec = Jvm.exec) (hb : c.code = cc) (hdg : decode cc pc = .ok (.l2i, 1)) (k : W p l e R s m args below meth c H locs cells slots Q (F0 m (pc + 1) ls (.int (nI a) :: rest))) : W p l e R s m args below meth c H locs cells slots Q (F0 m pc ls (.long (lN a) :: rest)) := lv_l2i hx hb hdg (lN_i a) k
theorem nv_ldiv {a b : Nat} (hx : p.tables.exec = Jvm.exec) (hb : c.code = cc) (hdg : decode cc pc = .ok (.ldiv, 1)) (ha : a < 2 ^ 63) (h0 : 0 < b) (hb2 : b < 2 ^ 63) (k : W p l e R s m args below meth c H locs cells slots Q (F0 m (pc + 1) ls (.long (lN (a / b)) :: rest))) : W p l e R s m args below meth c H locs cells slots Q (F0 m pc ls (.long (lN b) :: .long (lN a) :: rest)) := lv_ldiv hx hb hdg (fun z => absurd ((pk_lEQ hb2 (by decide)).mp (z.trans (by decide : (0 : Int64) = lN 0))) (by omega)) (by rw [pk_lDiv ha h0 hb2]; exact k)
theorem nv_lrem {a b : Nat} (hx : p.tables.exec = Jvm.exec) (hb : c.code = cc) (hdg : decode cc pc = .ok (.lrem, 1)) (ha : a < 2 ^ 63) (h0 : 0 < b) (hb2 : b < 2 ^ 63) (k : W p l e R s m args below meth c H locs cells slots Q (F0 m (pc + 1) ls (.long (lN (a % b)) :: rest))) : W p l e R s m args below meth c H locs cells slots Q (F0 m pc ls (.long (lN b) :: .long (lN a) :: rest)) := lv_lrem hx hb hdg (fun z => absurd ((pk_lEQ hb2 (by decide)).mp (z.trans (by decide : (0 : Int64) = lN 0))) (by omega)) (by rw [pk_lRem ha h0 hb2]; exact k)
theorem nv_icmp_eq {a b : Nat} {off : Int} {tgt : Nat} (hx : p.tables.exec = Jvm.exec) (hb : c.code = cc) (hdg : decode cc pc = .ok (.if_icmp .eq off, 3)) (ht : (pc : Int) + off = (tgt : Int)) (ha : a < 2 ^ 31) (hb2 : b < 2 ^ 31) (kt : a = b → W p l e R s m args below meth c H locs cells slots Q (F0 m tgt ls rest)) (kf : ¬ a = b → W p l e R s m args below meth c H locs cells slots Q (F0 m (pc + 3) ls rest)) : W p l e R s m args below meth c H locs cells slots Q (F0 m pc ls (.int (nI b) :: .int (nI a) :: rest)) := lv_icmp_eq hx hb hdg ht (fun z => kt ((nI_eq ha hb2).mp z)) (fun z => kf (fun q => z ((nI_eq ha hb2).mpr q)))
theorem nv_icmp_ne {a b : Nat} {off : Int} {tgt : Nat} (hx : p.tables.exec = Jvm.exec) (hb : c.code = cc) (hdg : decode cc pc = .ok (.if_icmp .ne off, 3)) (ht : (pc : Int) + off = (tgt : Int)) (ha : a < 2 ^ 31) (hb2 : b < 2 ^ 31) (kt : ¬ a = b → W p l e R s m args below meth c H locs cells slots Q (F0 m tgt ls rest)) (kf : a = b → W p l e R s m args below meth c H locs cells slots Q (F0 m (pc + 3) ls rest)) : W p l e R s m args below meth c H locs cells slots Q (F0 m pc ls (.int (nI b) :: .int (nI a) :: rest)) := lv_icmp_ne hx hb hdg ht (fun z => kt (fun q => z ((nI_eq ha hb2).mpr q))) (fun z => kf ((nI_eq ha hb2).mp z))
theorem nv_icmp_lt {a b : Nat} {off : Int} {tgt : Nat} (hx : p.tables.exec = Jvm.exec) (hb : c.code = cc) (hdg : decode cc pc = .ok (.if_icmp .lt off, 3)) (ht : (pc : Int) + off = (tgt : Int)) (ha : a < 2 ^ 31) (hb2 : b < 2 ^ 31) (kt : a < b → W p l e R s m args below meth c H locs cells slots Q (F0 m tgt ls rest)) (kf : b ≤ a → W p l e R s m args below meth c H locs cells slots Q (F0 m (pc + 3) ls rest)) : W p l e R s m args below meth c H locs cells slots Q (F0 m pc ls (.int (nI b) :: .int (nI a) :: rest)) := lv_icmp_lt hx hb hdg ht (fun z => kt ((nI_ltI ha hb2).mp z)) (fun z => kf (Nat.le_of_not_lt (fun q => z ((nI_ltI ha hb2).mpr q))))
theorem nv_icmp_ge {a b : Nat} {off : Int} {tgt : Nat} (hx : p.tables.exec = Jvm.exec) (hb : c.code = cc) (hdg : decode cc pc = .ok (.if_icmp .ge off, 3)) (ht : (pc : Int) + off = (tgt : Int)) (ha : a < 2 ^ 31) (hb2 : b < 2 ^ 31) (kt : b ≤ a → W p l e R s m args below meth c H locs cells slots Q (F0 m tgt ls rest)) (kf : a < b → W p l e R s m args below meth c H locs cells slots Q (F0 m (pc + 3) ls rest)) : W p l e R s m args below meth c H locs cells slots Q (F0 m pc ls (.int (nI b) :: .int (nI a) :: rest)) := lv_icmp_ge hx hb hdg ht (fun z => kt ((nI_leI hb2 ha).mp z)) (fun z => kf (Nat.lt_of_not_le (fun q => z ((nI_leI hb2 ha).mpr q))))
theorem nv_icmp_gt {a b : Nat} {off : Int} {tgt : Nat} (hx : p.tables.exec = Jvm.exec) (hb : c.code = cc) (hdg : decode cc pc = .ok (.if_icmp .gt off, 3)) (ht : (pc : Int) + off = (tgt : Int)) (ha : a < 2 ^ 31) (hb2 : b < 2 ^ 31) (kt : b < a → W p l e R s m args below meth c H locs cells slots Q (F0 m tgt ls rest)) (kf : a ≤ b → W p l e R s m args below meth c H locs cells slots Q (F0 m (pc + 3) ls rest)) : W p l e R s m args below meth c H locs cells slots Q (F0 m pc ls (.int (nI b) :: .int (nI a) :: rest)) := lv_icmp_gt hx hb hdg ht (fun z => kt ((nI_ltI hb2 ha).mp z)) (fun z => kf (Nat.le_of_not_lt (fun q => z ((nI_ltI hb2 ha).mpr q))))
theorem nv_icmp_le {a b : Nat} {off : Int} {tgt : Nat} (hx : p.tables.exec = Jvm.exec) (hb : c.code = cc) (hdg : decode cc pc = .ok (.if_icmp .le off, 3)) (ht : (pc : Int) + off = (tgt : Int)) (ha : a < 2 ^ 31) (hb2 : b < 2 ^ 31) (kt : a ≤ b → W p l e R s m args below meth c H locs cells slots Q (F0 m tgt ls rest)) (kf : b < a → W p l e R s m args below meth c H locs cells slots Q (F0 m (pc + 3) ls rest)) : W p l e R s m args below meth c H locs cells slots Q (F0 m pc ls (.int (nI b) :: .int (nI a) :: rest)) := lv_icmp_le hx hb hdg ht (fun z => kt ((nI_leI ha hb2).mp z)) (fun z => kf (Nat.lt_of_not_le (fun q => z ((nI_leI ha hb2).mpr q))))
theorem nv_z0 {a : Nat} (h : a < 2 ^ 31) : nI a = 0 ↔ a = 0 := ⟨fun z => (nI_eq h (by decide)).mp (z.trans nI_0.symm), fun z => by rw [z]; exact nI_0⟩
theorem nv_if_eq {a : Nat} {off : Int} {tgt : Nat} (hx : p.tables.exec = Jvm.exec) (hb : c.code = cc) (hdg : decode cc pc = .ok (.ifCond .eq off, 3)) (ht : (pc : Int) + off = (tgt : Int)) (ha : a < 2 ^ 31) (kt : a = 0 → W p l e R s m args below meth c H locs cells slots Q (F0 m tgt ls rest)) (kf : ¬ a = 0 → W p l e R s m args below meth c H locs cells slots Q (F0 m (pc + 3) ls rest)) : W p l e R s m args below meth c H locs cells slots Q (F0 m pc ls (.int (nI a) :: rest)) := lv_if_eq hx hb hdg ht (fun q => kt ((nv_z0 ha).mp q)) (fun q => kf (fun y => q ((nv_z0 ha).mpr y)))
theorem nv_if_ne {a : Nat} {off : Int} {tgt : Nat} (hx : p.tables.exec = Jvm.exec) (hb : c.code = cc) (hdg : decode cc pc = .ok (.ifCond .ne off, 3)) (ht : (pc : Int) + off = (tgt : Int)) (ha : a < 2 ^ 31) (kt : ¬ a = 0 → W p l e R s m args below meth c H locs cells slots Q (F0 m tgt ls rest)) (kf : a = 0 → W p l e R s m args below meth c H locs cells slots Q (F0 m (pc + 3) ls rest)) : W p l e R s m args below meth c H locs cells slots Q (F0 m pc ls (.int (nI a) :: rest)) := lv_if_ne hx hb hdg ht (fun q => kt (fun y => q ((nv_z0 ha).mpr y))) (fun q => kf ((nv_z0 ha).mp q))
theorem nv_if_lt {a : Nat} {off : Int} {tgt : Nat} (hx : p.tables.exec = Jvm.exec) (hb : c.code = cc) (hdg : decode cc pc = .ok (.ifCond .lt off, 3)) (ht : (pc : Int) + off = (tgt : Int)) (ha : a < 2 ^ 31) (kf : W p l e R s m args below meth c H locs cells slots Q (F0 m (pc + 3) ls rest)) : W p l e R s m args below meth c H locs cells slots Q (F0 m pc ls (.int (nI a) :: rest)) := lv_if_lt hx hb hdg ht (fun z => absurd z (nI_pos ha)) (fun _ => kf)
theorem nv_if_ge {a : Nat} {off : Int} {tgt : Nat} (hx : p.tables.exec = Jvm.exec) (hb : c.code = cc) (hdg : decode cc pc = .ok (.ifCond .ge off, 3)) (ht : (pc : Int) + off = (tgt : Int)) (ha : a < 2 ^ 31) (kt : W p l e R s m args below meth c H locs cells slots Q (F0 m tgt ls rest)) : W p l e R s m args below meth c H locs cells slots Q (F0 m pc ls (.int (nI a) :: rest)) := lv_if_ge hx hb hdg ht (fun _ => kt) (fun z => absurd (nI_pos' ha) z)
theorem nv_if_gt {a : Nat} {off : Int} {tgt : Nat} (hx : p.tables.exec = Jvm.exec) (hb : c.code = cc) (hdg : decode cc pc = .ok (.ifCond .gt off, 3)) (ht : (pc : Int) + off = (tgt : Int)) (ha : a < 2 ^ 31) (kt : 0 < a → W p l e R s m args below meth c H locs cells slots Q (F0 m tgt ls rest)) (kf : a = 0 → W p l e R s m args below meth c H locs cells slots Q (F0 m (pc + 3) ls rest)) : W p l e R s m args below meth c H locs cells slots Q (F0 m pc ls (.int (nI a) :: rest)) := lv_if_gt hx hb hdg ht (fun z => kt (Nat.pos_of_ne_zero (fun q => by subst q; exact absurd z (by decide)))) (fun z => kf (by rcases Nat.eq_zero_or_pos a with q | q; exact q; exact absurd (nI_lt q ha) z))
theorem nv_if_le {a : Nat} {off : Int} {tgt : Nat} (hx : p.tables.exec = Jvm.exec) (hb : c.code = cc) (hdg : decode cc pc = .ok (.ifCond .le off, 3)) (ht : (pc : Int) + off = (tgt : Int)) (ha : a < 2 ^ 31) (kt : a = 0 → W p l e R s m args below meth c H locs cells slots Q (F0 m tgt ls rest)) (kf : 0 < a → W p l e R s m args below meth c H locs cells slots Q (F0 m (pc + 3) ls rest)) : W p l e R s m args below meth c H locs cells slots Q (F0 m pc ls (.int (nI a) :: rest)) := lv_if_le hx hb hdg ht (fun z => kt (by rcases Nat.eq_zero_or_pos a with q | q; exact q; exact absurd z (nI_nle q ha))) (fun z => kf (Nat.pos_of_ne_zero (fun q => by subst q; exact absurd (by decide) z)))
theorem lc_eq {x y : Int64} {off : Int} {tgt : Nat} (hx : p.tables.exec = Jvm.exec) (hb : c.code = cc) (hd1 : decode cc pc = .ok (.lcmp, 1)) (hd2 : decode cc (pc + 1) = .ok (.ifCond .eq off, 3)) (ht : ((pc + 1 : Nat) : Int) + off = (tgt : Int)) (kt : x = y → W p l e R s m args below meth c H locs cells slots Q (F0 m tgt ls rest)) (kf : ¬ x = y → W p l e R s m args below meth c H locs cells slots Q (F0 m (pc + 4) ls rest)) : W p l e R s m args below meth c H locs cells slots Q (F0 m pc ls (.long y :: .long x :: rest)) := W.lcmp hx hb hd1 (lv_if_eq hx hb hd2 ht (fun z => kt ((lg_cmp_eq x y).mp z)) (fun z => kf (fun q => z ((lg_cmp_eq x y).mpr q))))
theorem lc_ne {x y : Int64} {off : Int} {tgt : Nat} (hx : p.tables.exec = Jvm.exec) (hb : c.code = cc) (hd1 : decode cc pc = .ok (.lcmp, 1)) (hd2 : decode cc (pc + 1) = .ok (.ifCond .ne off, 3)) (ht : ((pc + 1 : Nat) : Int) + off = (tgt : Int)) (kt : ¬ x = y → W p l e R s m args below meth c H locs cells slots Q (F0 m tgt ls rest)) (kf : x = y → W p l e R s m args below meth c H locs cells slots Q (F0 m (pc + 4) ls rest)) : W p l e R s m args below meth c H locs cells slots Q (F0 m pc ls (.long y :: .long x :: rest)) := W.lcmp hx hb hd1 (lv_if_ne hx hb hd2 ht (fun z => kt (fun q => z ((lg_cmp_eq x y).mpr q))) (fun z => kf ((lg_cmp_eq x y).mp z)))
theorem lc_lt {x y : Int64} {off : Int} {tgt : Nat} (hx : p.tables.exec = Jvm.exec) (hb : c.code = cc) (hd1 : decode cc pc = .ok (.lcmp, 1)) (hd2 : decode cc (pc + 1) = .ok (.ifCond .lt off, 3)) (ht : ((pc + 1 : Nat) : Int) + off = (tgt : Int)) (kt : x < y → W p l e R s m args below meth c H locs cells slots Q (F0 m tgt ls rest)) (kf : ¬ x < y → W p l e R s m args below meth c H locs cells slots Q (F0 m (pc + 4) ls rest)) : W p l e R s m args below meth c H locs cells slots Q (F0 m pc ls (.long y :: .long x :: rest)) := W.lcmp hx hb hd1 (lv_if_lt hx hb hd2 ht (fun z => kt ((lg_cmp_lt x y).mp z)) (fun z => kf (fun q => z ((lg_cmp_lt x y).mpr q))))
theorem lc_ge {x y : Int64} {off : Int} {tgt : Nat} (hx : p.tables.exec = Jvm.exec) (hb : c.code = cc) (hd1 : decode cc pc = .ok (.lcmp, 1)) (hd2 : decode cc (pc + 1) = .ok (.ifCond .ge off, 3)) (ht : ((pc + 1 : Nat) : Int) + off = (tgt : Int)) (kt : y ≤ x → W p l e R s m args below meth c H locs cells slots Q (F0 m tgt ls rest)) (kf : ¬ y ≤ x → W p l e R s m args below meth c H locs cells slots Q (F0 m (pc + 4) ls rest)) : W p l e R s m args below meth c H locs cells slots Q (F0 m pc ls (.long y :: .long x :: rest)) := W.lcmp hx hb hd1 (lv_if_ge hx hb hd2 ht (fun z => kt ((lg_cmp_ge x y).mp z)) (fun z => kf (fun q => z ((lg_cmp_ge x y).mpr q))))
theorem lc_gt {x y : Int64} {off : Int} {tgt : Nat} (hx : p.tables.exec = Jvm.exec) (hb : c.code = cc) (hd1 : decode cc pc = .ok (.lcmp, 1)) (hd2 : decode cc (pc + 1) = .ok (.ifCond .gt off, 3)) (ht : ((pc + 1 : Nat) : Int) + off = (tgt : Int)) (kt : y < x → W p l e R s m args below meth c H locs cells slots Q (F0 m tgt ls rest)) (kf : ¬ y < x → W p l e R s m args below meth c H locs cells slots Q (F0 m (pc + 4) ls rest)) : W p l e R s m args below meth c H locs cells slots Q (F0 m pc ls (.long y :: .long x :: rest)) := W.lcmp hx hb hd1 (lv_if_gt hx hb hd2 ht (fun z => kt ((lg_cmp_gt x y).mp z)) (fun z => kf (fun q => z ((lg_cmp_gt x y).mpr q))))
theorem lc_le {x y : Int64} {off : Int} {tgt : Nat} (hx : p.tables.exec = Jvm.exec) (hb : c.code = cc) (hd1 : decode cc pc = .ok (.lcmp, 1)) (hd2 : decode cc (pc + 1) = .ok (.ifCond .le off, 3)) (ht : ((pc + 1 : Nat) : Int) + off = (tgt : Int)) (kt : x ≤ y → W p l e R s m args below meth c H locs cells slots Q (F0 m tgt ls rest)) (kf : ¬ x ≤ y → W p l e R s m args below meth c H locs cells slots Q (F0 m (pc + 4) ls rest)) : W p l e R s m args below meth c H locs cells slots Q (F0 m pc ls (.long y :: .long x :: rest)) := W.lcmp hx hb hd1 (lv_if_le hx hb hd2 ht (fun z => kt ((lg_cmp_le x y).mp z)) (fun z => kf (fun q => z ((lg_cmp_le x y).mpr q))))
end NV
section NA
variable {p : Program} {l : Launch} {e : Env} {R : Room} {s : State} {m : MethodId} {args : Array Value} {below : List Frame} {meth : Method} {c : Code} {H : Heap} {locs : List Loc} {cells slots : Nat} {Q : State → Prop}
variable {cc : ByteArray} {pc : Nat} {ls : Array Slot} {rest : List Value}
variable {D : va_G} {cl : List vw_C} {A : Nat → Prop} {a : Nat} {tys : List (ClassId × FieldType)} {ws : va_W} {H0 : Heap}
theorem na_iald (hx : p.tables.exec = Jvm.exec) (hb : c.code = cc) (hK : va_K D cl tys s) (hP : va_P D cl ws H) (q0 t0 : Nat) {cA : ClassId} {n k : Nat} {f : Nat → Int32} (ha : ws[q0]? = some (a, .inl (cA, n, .inl f))) (ht : tys[t0]? = some (cA, .int)) (hk : k < n) (hn : n < 2 ^ 31) (hdg : decode cc pc = .ok (.iaload, 1)) (kk : W p l e R s m args below meth c H locs cells slots Q (F0 m (pc + 1) ls (.int (f k) :: rest))) : W p l e R s m args below meth c H locs cells slots Q (F0 m pc ls (.int (nI k) :: .ref a :: rest)) := va_iald hx hb hK hP q0 t0 ha ht (vp_in_nI hk hn) hdg (by rw [nI_clamp (Nat.lt_trans hk hn)]; exact kk)
theorem na_zald (hx : p.tables.exec = Jvm.exec) (hb : c.code = cc) (hK : va_K D cl tys s) (hP : va_P D cl ws H) (q0 t0 : Nat) {cA : ClassId} {n k : Nat} {f : Nat → Int32} (ha : ws[q0]? = some (a, .inl (cA, n, .inl f))) (ht : tys[t0]? = some (cA, .boolean)) (hk : k < n) (hn : n < 2 ^ 31) (hdg : decode cc pc = .ok (.baload, 1)) (kk : W p l e R s m args below meth c H locs cells slots Q (F0 m (pc + 1) ls (.int (f k) :: rest))) : W p l e R s m args below meth c H locs cells slots Q (F0 m pc ls (.int (nI k) :: .ref a :: rest)) := va_zald hx hb hK hP q0 t0 ha ht (vp_in_nI hk hn) hdg (by rw [nI_clamp (Nat.lt_trans hk hn)]; exact kk)
theorem na_lald (hx : p.tables.exec = Jvm.exec) (hb : c.code = cc) (hK : va_K D cl tys s) (hP : va_P D cl ws H) (q0 t0 : Nat) {cA : ClassId} {n k : Nat} {f : Nat → Int64} (ha : ws[q0]? = some (a, .inl (cA, n, .inr (.inl f)))) (ht : tys[t0]? = some (cA, .long)) (hk : k < n) (hn : n < 2 ^ 31) (hdg : decode cc pc = .ok (.laload, 1)) (kk : W p l e R s m args below meth c H locs cells slots Q (F0 m (pc + 1) ls (.long (f k) :: rest))) : W p l e R s m args below meth c H locs cells slots Q (F0 m pc ls (.int (nI k) :: .ref a :: rest)) := va_lald hx hb hK hP q0 t0 ha ht (vp_in_nI hk hn) hdg (by rw [nI_clamp (Nat.lt_trans hk hn)]; exact kk)
theorem na_aldq (hx : p.tables.exec = Jvm.exec) (hb : c.code = cc) (hK : va_K D cl tys s) (hP : va_P D cl ws H) (q0 t0 : Nat) {cA : ClassId} {C : String} {n k : Nat} {f : Nat → Option Nat} (ha : ws[q0]? = some (a, .inl (cA, n, .inr (.inr (.inr (.inr f)))))) (ht : tys[t0]? = some (cA, .object C)) (hk : k < n) (hn : n < 2 ^ 31) (hdg : decode cc pc = .ok (.aaload, 1)) (kk : W p l e R s m args below meth c H locs cells slots Q (F0 m (pc + 1) ls (va_rf (f k) :: rest))) : W p l e R s m args below meth c H locs cells slots Q (F0 m pc ls (.int (nI k) :: .ref a :: rest)) := va_aldq hx hb hK hP q0 t0 ha ht (vp_in_nI hk hn) hdg (by rw [nI_clamp (Nat.lt_trans hk hn)]; exact kk)
theorem na_iast (hx : p.tables.exec = Jvm.exec) (hb : c.code = cc) (hK : va_K D cl tys s) (hP : va_P D cl ws H) (hD : va_D A ws) (hS : va_S A H0 H locs) (q0 t0 : Nat) {cA : ClassId} {n k : Nat} {f : Nat → Int32} (ha : ws[q0]? = some (a, .inl (cA, n, .inl f))) (ht : tys[t0]? = some (cA, .int)) {x : Int32} (hk : k < n) (hn : n < 2 ^ 31) (hdg : decode cc pc = .ok (.iastore, 1)) (kk : ∀ (H1 : Heap) (locs1 : List Loc), va_P D cl (ws.set q0 (a, .inl (cA, n, .inl (upd f k x)))) H1 → va_D A (ws.set q0 (a, .inl (cA, n, .inl (upd f k x)))) → va_S A H0 H1 locs1 → W p l e R s m args below meth c H1 locs1 cells slots Q (F0 m (pc + 1) ls rest)) : W p l e R s m args below meth c H locs cells slots Q (F0 m pc ls (.int x :: .int (nI k) :: .ref a :: rest)) := va_iast hx hb hK hP hD hS q0 t0 ha ht (vp_in_nI hk hn) hdg (by rw [nI_clamp (Nat.lt_trans hk hn)]; exact kk)
theorem nv_bool {x : Int32} (h : x = 0 ∨ x = 1) : vp_nar .boolean x = x := by rcases h with h | h <;> subst h <;> decide +kernel
theorem na_zast (hx : p.tables.exec = Jvm.exec) (hb : c.code = cc) (hK : va_K D cl tys s) (hP : va_P D cl ws H) (hD : va_D A ws) (hS : va_S A H0 H locs) (q0 t0 : Nat) {cA : ClassId} {n k : Nat} {f : Nat → Int32} (ha : ws[q0]? = some (a, .inl (cA, n, .inl f))) (ht : tys[t0]? = some (cA, .boolean)) {x : Int32} (h01 : x = 0 ∨ x = 1) (hk : k < n) (hn : n < 2 ^ 31) (hdg : decode cc pc = .ok (.bastore, 1)) (kk : ∀ (H1 : Heap) (locs1 : List Loc), va_P D cl (ws.set q0 (a, .inl (cA, n, .inl (upd f k x)))) H1 → va_D A (ws.set q0 (a, .inl (cA, n, .inl (upd f k x)))) → va_S A H0 H1 locs1 → W p l e R s m args below meth c H1 locs1 cells slots Q (F0 m (pc + 1) ls rest)) : W p l e R s m args below meth c H locs cells slots Q (F0 m pc ls (.int x :: .int (nI k) :: .ref a :: rest)) := va_zast hx hb hK hP hD hS q0 t0 ha ht (vp_in_nI hk hn) hdg (by rw [nI_clamp (Nat.lt_trans hk hn), nv_bool h01]; exact kk)
theorem na_last (hx : p.tables.exec = Jvm.exec) (hb : c.code = cc) (hK : va_K D cl tys s) (hP : va_P D cl ws H) (hD : va_D A ws) (hS : va_S A H0 H locs) (q0 t0 : Nat) {cA : ClassId} {n k : Nat} {f : Nat → Int64} (ha : ws[q0]? = some (a, .inl (cA, n, .inr (.inl f)))) (ht : tys[t0]? = some (cA, .long)) {x : Int64} (hk : k < n) (hn : n < 2 ^ 31) (hdg : decode cc pc = .ok (.lastore, 1)) (kk : ∀ (H1 : Heap) (locs1 : List Loc), va_P D cl (ws.set q0 (a, .inl (cA, n, .inr (.inl (vp_updL f k x))))) H1 → va_D A (ws.set q0 (a, .inl (cA, n, .inr (.inl (vp_updL f k x))))) → va_S A H0 H1 locs1 → W p l e R s m args below meth c H1 locs1 cells slots Q (F0 m (pc + 1) ls rest)) : W p l e R s m args below meth c H locs cells slots Q (F0 m pc ls (.long x :: .int (nI k) :: .ref a :: rest)) := va_last hx hb hK hP hD hS q0 t0 ha ht (vp_in_nI hk hn) hdg (by rw [nI_clamp (Nat.lt_trans hk hn)]; exact kk)
end NA
/-- a truth as the machine's number -/
def bI (P : Prop) [Decidable P] : Int32 := if P then 1 else 0
theorem bI_t {P : Prop} [Decidable P] (h : P) : bI P = 1 := if_pos h
theorem bI_f {P : Prop} [Decidable P] (h : ¬ P) : bI P = 0 := if_neg h
theorem bI_0 {P : Prop} [Decidable P] : bI P = 0 ↔ ¬ P := by unfold bI; split <;> simp_all
theorem bI_n0 {P : Prop} [Decidable P] : ¬ bI P = 0 ↔ P := by unfold bI; split <;> simp_all
theorem bI_01 {P : Prop} [Decidable P] : bI P = 0 ∨ bI P = 1 := by unfold bI; split <;> simp
end
section
/-! worlds as lists of worlds: a place is (which world, where in it) -/
abbrev fl (L : List va_W) : va_W := L.flatten
theorem fl_mem {D : va_G} {cl : List vw_C} {ws : va_W} {H : Heap} : va_P D cl ws H ↔ ∀ q ∈ ws, va_at D cl q H :=
  ⟨fun h q hq => by obtain ⟨i, hi⟩ := List.getElem?_of_mem hq; exact h i q hi, fun h k q hk => h q (List.mem_of_getElem? hk)⟩
theorem fl_P {D : va_G} {cl : List vw_C} {L : List va_W} {H : Heap} (h : va_P D cl (fl L) H) (k : Nat) {Y : va_W} (hk : L[k]? = some Y) : va_P D cl Y H :=
  fl_mem.mpr fun q hq => fl_mem.mp h q (List.mem_flatten.mpr ⟨Y, List.mem_of_getElem? hk, hq⟩)
theorem fl_sub {D : va_G} {cl : List vw_C} {L L' : List va_W} {H : Heap} (h : va_P D cl (fl L) H) (is : List Nat) (hs : is.filterMap (fun i => L[i]?) = L') : va_P D cl (fl L') H :=
  fl_mem.mpr fun q hq => by
    obtain ⟨Y, h1, h2⟩ := List.mem_flatten.mp hq
    subst hs
    obtain ⟨i, -, hi⟩ := List.mem_filterMap.mp h1
    exact fl_mem.mp (fl_P h i hi) q h2
theorem dD_l {A : Nat → Prop} {X Y : va_W} (h : va_D A (X ++ Y)) : va_D A X := by
  have key : ∀ (i : Nat) (q : Nat × va_E), X[i]? = some q → (X ++ Y)[i]? = some q := fun i q hi => by
    rw [List.getElem?_append_left (List.getElem?_eq_some_iff.mp hi).1]; exact hi
  exact ⟨fun i j p q hi hj => h.1 i j p q (key i p hi) (key j q hj), fun k q hk => h.2 k q (key k q hk)⟩
theorem dD_r {A : Nat → Prop} {X Y : va_W} (h : va_D A (X ++ Y)) : va_D A Y := by
  have key : ∀ (i : Nat) (q : Nat × va_E), Y[i]? = some q → (X ++ Y)[X.length + i]? = some q := fun i q hi => by
    rw [List.getElem?_append_right (Nat.le_add_right _ _), Nat.add_sub_cancel_left]; exact hi
  exact ⟨fun i j p q hi hj hx => by have := h.1 _ _ p q (key i p hi) (key j q hj) hx; omega, fun k q hk => h.2 _ q (key k q hk)⟩
theorem dD_x {A : Nat → Prop} {X Y : va_W} (h : va_D A (X ++ Y)) {p q : Nat × va_E} (hp : p ∈ X) (hq : q ∈ Y) : p.1 ≠ q.1 := by
  obtain ⟨i, hi⟩ := List.getElem?_of_mem hp
  obtain ⟨j, hj⟩ := List.getElem?_of_mem hq
  have hl := (List.getElem?_eq_some_iff.mp hi).1
  intro e
  have h1 : (X ++ Y)[i]? = some p := by rw [List.getElem?_append_left hl]; exact hi
  have h2 : (X ++ Y)[X.length + j]? = some q := by rw [List.getElem?_append_right (Nat.le_add_right _ _), Nat.add_sub_cancel_left]; exact hj
  have := h.1 _ _ _ _ h1 h2 e
  omega
theorem dD_in {A : Nat → Prop} {X : va_W} (h : va_D A X) {q : Nat × va_E} (hq : q ∈ X) : A q.1 := by
  obtain ⟨i, hi⟩ := List.getElem?_of_mem hq
  exact h.2 i q hi
theorem dD_mk {A : Nat → Prop} {X Y : va_W} (hX : va_D A X) (hY : va_D A Y) (hx : ∀ p ∈ X, ∀ q ∈ Y, p.1 ≠ q.1) : va_D A (X ++ Y) :=
  va_D.app hX hY fun _ _ p q h1 h2 => hx p (List.mem_of_getElem? h1) q (List.mem_of_getElem? h2)
/-- behind a call that has a part of the world: the rest stays -/
theorem fr_mid {A : Nat → Prop} {D : va_G} {cl : List vw_C} {X Y Y1 Z : va_W} {H H1 : Heap} (hP : va_P D cl (X ++ (Y ++ Z)) H) (hD : va_D A (X ++ (Y ++ Z)))
    (hk : ∀ q : Nat, q < H.size → ¬ va_A Y H.size q → H1[q]? = H[q]?) (hF : ∀ q, va_A Y H.size q → A q) (hP1 : va_P D cl Y1 H1) (hD1 : va_D (va_A Y H.size) Y1) : va_P D cl (X ++ (Y1 ++ Z)) H1 ∧ va_D A (X ++ (Y1 ++ Z)) := by
  have hYm : ∀ q, va_A Y H.size q → (∃ y ∈ Y, y.1 = q) ∨ H.size ≤ q := fun q h => by
    rcases h with ⟨k, e, h⟩ | h
    · exact Or.inl ⟨_, List.mem_of_getElem? h, rfl⟩
    · exact Or.inr h
  have hDYZ := dD_r hD
  have aX : ∀ x ∈ X, x.1 < H.size ∧ ¬ va_A Y H.size x.1 := fun x hx => by
    have hl := (fl_mem.mp hP x (List.mem_append.mpr (Or.inl hx))).lt
    refine ⟨hl, fun h => ?_⟩
    rcases hYm _ h with ⟨y, hy, e⟩ | h
    · exact dD_x hD hx (List.mem_append.mpr (Or.inl hy)) e.symm
    · omega
  have aZ : ∀ z ∈ Z, z.1 < H.size ∧ ¬ va_A Y H.size z.1 := fun z hz => by
    have hl := (fl_mem.mp hP z (List.mem_append.mpr (Or.inr (List.mem_append.mpr (Or.inr hz))))).lt
    refine ⟨hl, fun h => ?_⟩
    rcases hYm _ h with ⟨y, hy, e⟩ | h
    · exact dD_x hDYZ hy hz e
    · omega
  have hin1 : ∀ y ∈ Y1, va_A Y H.size y.1 := fun y hy => dD_in hD1 hy
  refine ⟨fl_mem.mpr fun q hq => ?_, dD_mk (dD_l hD) (dD_mk (hD1.weaken fun _ _ _ h => hF _ h) (dD_r hDYZ) fun y hy z hz e => (aZ z hz).2 (e ▸ hin1 y hy)) fun x hx q hq e => ?_⟩
  · rcases List.mem_append.mp hq with h | h
    · exact (fl_mem.mp hP q (List.mem_append.mpr (Or.inl h))).kept (hk q.1 (aX q h).1 (aX q h).2)
    · rcases List.mem_append.mp h with h | h
      · exact fl_mem.mp hP1 q h
      · exact (fl_mem.mp hP q (List.mem_append.mpr (Or.inr (List.mem_append.mpr (Or.inr h))))).kept (hk q.1 (aZ q h).1 (aZ q h).2)
  · rcases List.mem_append.mp hq with h | h
    · exact (aX x hx).2 (e ▸ hin1 q h)
    · exact dD_x hD hx (List.mem_append.mpr (Or.inr h)) e
theorem fl_cut {L : List va_W} {k : Nat} {Y : va_W} (hk : L[k]? = some Y) : fl L = fl (L.take k) ++ (Y ++ fl (L.drop (k + 1))) := by
  obtain ⟨hl, he⟩ := List.getElem?_eq_some_iff.mp hk
  have h1 : L = L.take k ++ (Y :: L.drop (k + 1)) := by
    rw [← he, List.getElem_cons_drop, List.take_append_drop]
  have h2 : fl L = fl (L.take k ++ (Y :: L.drop (k + 1))) := congrArg fl h1
  rw [h2]
  show List.flatten _ = _
  rw [List.flatten_append, List.flatten_cons]
theorem fl_cutS {L : List va_W} {k : Nat} {Y : va_W} (Y1 : va_W) (hk : L[k]? = some Y) : fl (L.set k Y1) = fl (L.take k) ++ (Y1 ++ fl (L.drop (k + 1))) := by
  have hl := (List.getElem?_eq_some_iff.mp hk).1
  have h1 : (L.set k Y1)[k]? = some Y1 := List.getElem?_set_self hl
  rw [fl_cut h1, List.take_set, List.drop_set]
  congr 1
  · rw [List.set_eq_of_length_le (by rw [List.length_take]; omega)]
  · rw [if_pos (by omega)]
/-- the k-th world was a call's world -/
theorem fr_k {A : Nat → Prop} {D : va_G} {cl : List vw_C} {L : List va_W} {Y Y1 : va_W} {H H1 : Heap} (hP : va_P D cl (fl L) H) (hD : va_D A (fl L)) (k : Nat) (hL : L[k]? = some Y)
    (hk : ∀ q : Nat, q < H.size → ¬ va_A Y H.size q → H1[q]? = H[q]?) (hF : ∀ q, va_A Y H.size q → A q) (hP1 : va_P D cl Y1 H1) (hD1 : va_D (va_A Y H.size) Y1) : va_P D cl (fl (L.set k Y1)) H1 ∧ va_D A (fl (L.set k Y1)) := by
  rw [fl_cutS Y1 hL]
  rw [fl_cut hL] at hP hD
  exact fr_mid hP hD hk hF hP1 hD1
theorem fl_D {A : Nat → Prop} {L : List va_W} (h : va_D A (fl L)) (k : Nat) {Y : va_W} (hk : L[k]? = some Y) : va_D A Y := by
  rw [fl_cut hk] at h
  exact dD_l (dD_r h)
theorem fl_free {A0 : Nat → Prop} {L : List va_W} {Y : va_W} {H0 H : Heap} {locs : List Loc} (hD : va_D A0 (fl L)) (hS : va_S A0 H0 H locs) (hA : ∀ q, H0.size ≤ q → A0 q) (k : Nat) (hk : L[k]? = some Y) : ∀ q, va_A Y H.size q → A0 q := by
  intro q h
  rcases h with ⟨i, e, h⟩ | h
  · exact (fl_D hD k hk).2 i (q, e) h
  · exact hA q (Nat.le_trans hS.1 h)
theorem fl_freeA {A0 : Nat → Prop} {Y : va_W} {H0 H : Heap} {locs : List Loc} (hD : va_D A0 Y) (hS : va_S A0 H0 H locs) (hA : ∀ q, H0.size ≤ q → A0 q) : ∀ q, va_A Y H.size q → A0 q := by
  intro q h
  rcases h with ⟨i, e, h⟩ | h
  · exact hD.2 i (q, e) h
  · exact hA q (Nat.le_trans hS.1 h)
/-- a cell of a world of the list, and what writing it makes of the list -/
theorem fl_at {L : List va_W} {k q0 : Nat} {Y : va_W} {x : Nat × va_E} (hk : L[k]? = some Y) (hq : Y[q0]? = some x) : ∃ i : Nat, (fl L)[i]? = some x ∧ ∀ y, (fl L).set i y = fl (L.set k (Y.set q0 y)) := by
  have hl := (List.getElem?_eq_some_iff.mp hq).1
  refine ⟨(fl (L.take k)).length + q0, ?_, fun y => ?_⟩
  · rw [fl_cut hk, List.getElem?_append_right (Nat.le_add_right _ _), Nat.add_sub_cancel_left, List.getElem?_append_left hl]
    exact hq
  · rw [fl_cutS _ hk, fl_cut hk, List.set_append_right _ _ (Nat.le_add_right _ _), Nat.add_sub_cancel_left, List.set_append_left _ _ hl]
section FV
variable {p : Program} {l : Launch} {e : Env} {R : Room} {s : State} {m : MethodId} {args : Array Value} {below : List Frame} {meth : Method} {c : Code} {H : Heap} {locs : List Loc} {cells slots : Nat} {Q : State → Prop}
variable {cc : ByteArray} {pc : Nat} {ls : Array Slot} {rest : List Value} {D : va_G} {cl : List vw_C} {A : Nat → Prop} {a : Nat} {tys : List (ClassId × FieldType)} {L : List va_W} {Y : va_W} {H0 : Heap}
theorem fv_get (hx : p.tables.exec = Jvm.exec) (hb : c.code = cc) {own ref C : String} {T : u_T} {N ci index : Nat} {Ts : List Cond} (hts : ∀ w ∈ Ts, w.before args s = true) (hin : ∀ w ∈ u_ws C T N, w ∈ Ts) (hown : s.vm.findClass own = some m.cls) (hK : va_K D cl tys s) (hP : va_P D cl (fl L) H) (kw q0 : Nat) (hL : L[kw]? = some Y) {fs : List Value} (he : Y[q0]? = some (a, .inr (ci, fs))) (hc : cl[ci]? = some (C, T, N)) (k : Nat) (hk : k < N) (hlink : (Cond.fieldLink own index ref (T k).2.1 (T k).2.2.1).before args s = true) (hsame : ∀ x, s.fieldFound? (T k).1 (T k).2.1 (T k).2.2.1 = some x → s.fieldFound? ref (T k).2.1 (T k).2.2.1 = some x) {v : Value} (hv : fs[k]? = some v) (hdg : decode cc pc = .ok (.getfield index, 3)) (kk : W p l e R s m args below meth c H locs cells slots Q (F0 m (pc + 3) ls (v :: rest))) : W p l e R s m args below meth c H locs cells slots Q (F0 m pc ls (.ref a :: rest)) := va_get hx hb hts hin hown hK (fl_P hP kw hL) q0 he hc k hk hlink hsame hv hdg kk
theorem fv_put (hx : p.tables.exec = Jvm.exec) (hb : c.code = cc) {own ref C : String} {T : u_T} {N ci index : Nat} {Ts : List Cond} (hts : ∀ w ∈ Ts, w.before args s = true) (hin : ∀ w ∈ u_ws C T N, w ∈ Ts) (ty0 : Nat → FieldType) (hty : ∀ k, k < N → parseFieldDescriptor (T k).2.2.1 = some (ty0 k)) (hnm : ∀ a, a < N → ∀ b, b < N → a ≠ b → (T a).2.1 ≠ (T b).2.1) (hown : s.vm.findClass own = some m.cls) (hK : va_K D cl tys s) (hP : va_P D cl (fl L) H) (hD : va_D A (fl L)) (hS : va_S A H0 H locs) (kw q0 : Nat) (hL : L[kw]? = some Y) {fs : List Value} (he : Y[q0]? = some (a, .inr (ci, fs))) (hc : cl[ci]? = some (C, T, N)) (k : Nat) (hk : k < N) (hlink : (Cond.fieldLink own index ref (T k).2.1 (T k).2.2.1).before args s = true) (hsame : ∀ x, s.fieldFound? (T k).1 (T k).2.1 (T k).2.2.1 = some x → s.fieldFound? ref (T k).2.1 (T k).2.2.1 = some x) (hfin : (T k).2.2.2 = false) {ty : FieldType} {v : Value} (hd : parseFieldDescriptor (T k).2.2.1 = some ty) (hn : narrow ty v = v) (hfit : fits ty v = true) (hl : k < fs.length) (hdg : decode cc pc = .ok (.putfield index, 3)) (kk : ∀ (H1 : Heap) (locs1 : List Loc), va_P D cl (fl (L.set kw (Y.set q0 (a, .inr (ci, fs.set k v))))) H1 → va_D A (fl (L.set kw (Y.set q0 (a, .inr (ci, fs.set k v))))) → va_S A H0 H1 locs1 → W p l e R s m args below meth c H1 locs1 cells slots Q (F0 m (pc + 3) ls rest)) : W p l e R s m args below meth c H locs cells slots Q (F0 m pc ls (v :: .ref a :: rest)) := by
  obtain ⟨i, h1, h2⟩ := fl_at hL he
  refine va_put hx hb hts hin ty0 hty hnm hown hK hP hD hS i h1 hc k hk hlink hsame hfin hd hn hfit hl hdg fun H1 locs1 h3 h4 h5 => ?_
  rw [h2] at h3 h4
  exact kk H1 locs1 h3 h4 h5
theorem fv_putF (hx : p.tables.exec = Jvm.exec) (hb : c.code = cc) {own ref C : String} {T : u_T} {N ci index : Nat} {Ts : List Cond} (hts : ∀ w ∈ Ts, w.before args s = true) (hin : ∀ w ∈ u_ws C T N, w ∈ Ts) (ty0 : Nat → FieldType) (hty : ∀ k, k < N → parseFieldDescriptor (T k).2.2.1 = some (ty0 k)) (hnm : ∀ a, a < N → ∀ b, b < N → a ≠ b → (T a).2.1 ≠ (T b).2.1) (hown : s.vm.findClass own = some m.cls) (hK : va_K D cl tys s) (hP : va_P D cl (fl L) H) (hD : va_D A (fl L)) (hS : va_S A H0 H locs) (kw q0 : Nat) (hL : L[kw]? = some Y) {fs : List Value} (he : Y[q0]? = some (a, .inr (ci, fs))) (hc : cl[ci]? = some (C, T, N)) (k : Nat) (hk : k < N) (hlink : (Cond.fieldLink own index ref (T k).2.1 (T k).2.2.1).before args s = true) (hsame : ∀ x, s.fieldFound? (T k).1 (T k).2.1 (T k).2.2.1 = some x → s.fieldFound? ref (T k).2.1 (T k).2.2.1 = some x) (hfin : (T k).2.2.2 = true) (hin2 : meth.name = "<init>") (hdecl : (T k).1 = own) {ty : FieldType} {v : Value} (hd : parseFieldDescriptor (T k).2.2.1 = some ty) (hn : narrow ty v = v) (hfit : fits ty v = true) (hl : k < fs.length) (hdg : decode cc pc = .ok (.putfield index, 3)) (kk : ∀ (H1 : Heap) (locs1 : List Loc), va_P D cl (fl (L.set kw (Y.set q0 (a, .inr (ci, fs.set k v))))) H1 → va_D A (fl (L.set kw (Y.set q0 (a, .inr (ci, fs.set k v))))) → va_S A H0 H1 locs1 → W p l e R s m args below meth c H1 locs1 cells slots Q (F0 m (pc + 3) ls rest)) : W p l e R s m args below meth c H locs cells slots Q (F0 m pc ls (v :: .ref a :: rest)) := by
  obtain ⟨i, h1, h2⟩ := fl_at hL he
  refine va_putF hx hb hts hin ty0 hty hnm hown hK hP hD hS i h1 hc k hk hlink hsame hfin hin2 hdecl hd hn hfit hl hdg fun H1 locs1 h3 h4 h5 => ?_
  rw [h2] at h3 h4
  exact kk H1 locs1 h3 h4 h5
theorem fv_getN (hx : p.tables.exec = Jvm.exec) (hb : c.code = cc) {own ref C : String} {T : u_T} {N ci index : Nat} {Ts : List Cond} (hts : ∀ w ∈ Ts, w.before args s = true) (hin : ∀ w ∈ u_ws C T N, w ∈ Ts) {host : String} (hown : s.vm.findClass own = some m.cls) (hK : va_K D cl tys s) (hP : va_P D cl (fl L) H) (kw q0 : Nat) (hL : L[kw]? = some Y) {fs : List Value} (he : Y[q0]? = some (a, .inr (ci, fs))) (hc : cl[ci]? = some (C, T, N)) (k : Nat) (hk : k < N) (hlink : (Cond.fieldLinkNest own index ref (T k).2.1 (T k).2.2.1 host).before args s = true) (hsame : ∀ x, s.fieldFound? (T k).1 (T k).2.1 (T k).2.2.1 = some x → s.fieldFound? ref (T k).2.1 (T k).2.2.1 = some x) {v : Value} (hv : fs[k]? = some v) (hdg : decode cc pc = .ok (.getfield index, 3)) (kk : W p l e R s m args below meth c H locs cells slots Q (F0 m (pc + 3) ls (v :: rest))) : W p l e R s m args below meth c H locs cells slots Q (F0 m pc ls (.ref a :: rest)) := va_getN hx hb hts hin hown hK (fl_P hP kw hL) q0 he hc k hk hlink hsame hv hdg kk
theorem fv_putN (hx : p.tables.exec = Jvm.exec) (hb : c.code = cc) {own ref C : String} {T : u_T} {N ci index : Nat} {Ts : List Cond} (hts : ∀ w ∈ Ts, w.before args s = true) (hin : ∀ w ∈ u_ws C T N, w ∈ Ts) {host : String} (ty0 : Nat → FieldType) (hty : ∀ k, k < N → parseFieldDescriptor (T k).2.2.1 = some (ty0 k)) (hnm : ∀ a, a < N → ∀ b, b < N → a ≠ b → (T a).2.1 ≠ (T b).2.1) (hown : s.vm.findClass own = some m.cls) (hK : va_K D cl tys s) (hP : va_P D cl (fl L) H) (hD : va_D A (fl L)) (hS : va_S A H0 H locs) (kw q0 : Nat) (hL : L[kw]? = some Y) {fs : List Value} (he : Y[q0]? = some (a, .inr (ci, fs))) (hc : cl[ci]? = some (C, T, N)) (k : Nat) (hk : k < N) (hlink : (Cond.fieldLinkNest own index ref (T k).2.1 (T k).2.2.1 host).before args s = true) (hsame : ∀ x, s.fieldFound? (T k).1 (T k).2.1 (T k).2.2.1 = some x → s.fieldFound? ref (T k).2.1 (T k).2.2.1 = some x) (hfin : (T k).2.2.2 = false) {ty : FieldType} {v : Value} (hd : parseFieldDescriptor (T k).2.2.1 = some ty) (hn : narrow ty v = v) (hfit : fits ty v = true) (hl : k < fs.length) (hdg : decode cc pc = .ok (.putfield index, 3)) (kk : ∀ (H1 : Heap) (locs1 : List Loc), va_P D cl (fl (L.set kw (Y.set q0 (a, .inr (ci, fs.set k v))))) H1 → va_D A (fl (L.set kw (Y.set q0 (a, .inr (ci, fs.set k v))))) → va_S A H0 H1 locs1 → W p l e R s m args below meth c H1 locs1 cells slots Q (F0 m (pc + 3) ls rest)) : W p l e R s m args below meth c H locs cells slots Q (F0 m pc ls (v :: .ref a :: rest)) := by
  obtain ⟨i, h1, h2⟩ := fl_at hL he
  refine va_putN hx hb hts hin ty0 hty hnm hown hK hP hD hS i h1 hc k hk hlink hsame hfin hd hn hfit hl hdg fun H1 locs1 h3 h4 h5 => ?_
  rw [h2] at h3 h4
  exact kk H1 locs1 h3 h4 h5
end FV
section FA
variable {p : Program} {l : Launch} {e : Env} {R : Room} {s : State} {m : MethodId} {args : Array Value} {below : List Frame} {meth : Method} {c : Code} {H : Heap} {locs : List Loc} {cells slots : Nat} {Q : State → Prop}
variable {cc : ByteArray} {pc : Nat} {ls : Array Slot} {rest : List Value} {D : va_G} {cl : List vw_C} {A : Nat → Prop} {a : Nat} {tys : List (ClassId × FieldType)} {L : List va_W} {Y : va_W} {H0 : Heap}
theorem fa_iald (hx : p.tables.exec = Jvm.exec) (hb : c.code = cc) (hK : va_K D cl tys s) (hP : va_P D cl (fl L) H) (kw q0 t0 : Nat) (hL : L[kw]? = some Y) {cA : ClassId} {n k : Nat} {f : Nat → Int32} (ha : Y[q0]? = some (a, .inl (cA, n, .inl f))) (ht : tys[t0]? = some (cA, .int)) (hk : k < n) (hn : n < 2 ^ 31) (hdg : decode cc pc = .ok (.iaload, 1)) (kk : W p l e R s m args below meth c H locs cells slots Q (F0 m (pc + 1) ls (.int (f k) :: rest))) : W p l e R s m args below meth c H locs cells slots Q (F0 m pc ls (.int (nI k) :: .ref a :: rest)) := na_iald hx hb hK (fl_P hP kw hL) q0 t0 ha ht hk hn hdg kk
theorem fa_zald (hx : p.tables.exec = Jvm.exec) (hb : c.code = cc) (hK : va_K D cl tys s) (hP : va_P D cl (fl L) H) (kw q0 t0 : Nat) (hL : L[kw]? = some Y) {cA : ClassId} {n k : Nat} {f : Nat → Int32} (ha : Y[q0]? = some (a, .inl (cA, n, .inl f))) (ht : tys[t0]? = some (cA, .boolean)) (hk : k < n) (hn : n < 2 ^ 31) (hdg : decode cc pc = .ok (.baload, 1)) (kk : W p l e R s m args below meth c H locs cells slots Q (F0 m (pc + 1) ls (.int (f k) :: rest))) : W p l e R s m args below meth c H locs cells slots Q (F0 m pc ls (.int (nI k) :: .ref a :: rest)) := na_zald hx hb hK (fl_P hP kw hL) q0 t0 ha ht hk hn hdg kk
theorem fa_lald (hx : p.tables.exec = Jvm.exec) (hb : c.code = cc) (hK : va_K D cl tys s) (hP : va_P D cl (fl L) H) (kw q0 t0 : Nat) (hL : L[kw]? = some Y) {cA : ClassId} {n k : Nat} {f : Nat → Int64} (ha : Y[q0]? = some (a, .inl (cA, n, .inr (.inl f)))) (ht : tys[t0]? = some (cA, .long)) (hk : k < n) (hn : n < 2 ^ 31) (hdg : decode cc pc = .ok (.laload, 1)) (kk : W p l e R s m args below meth c H locs cells slots Q (F0 m (pc + 1) ls (.long (f k) :: rest))) : W p l e R s m args below meth c H locs cells slots Q (F0 m pc ls (.int (nI k) :: .ref a :: rest)) := na_lald hx hb hK (fl_P hP kw hL) q0 t0 ha ht hk hn hdg kk
theorem fa_aldq (hx : p.tables.exec = Jvm.exec) (hb : c.code = cc) (hK : va_K D cl tys s) (hP : va_P D cl (fl L) H) (kw q0 t0 : Nat) (hL : L[kw]? = some Y) {cA : ClassId} {C : String} {n k : Nat} {f : Nat → Option Nat} (ha : Y[q0]? = some (a, .inl (cA, n, .inr (.inr (.inr (.inr f)))))) (ht : tys[t0]? = some (cA, .object C)) (hk : k < n) (hn : n < 2 ^ 31) (hdg : decode cc pc = .ok (.aaload, 1)) (kk : W p l e R s m args below meth c H locs cells slots Q (F0 m (pc + 1) ls (va_rf (f k) :: rest))) : W p l e R s m args below meth c H locs cells slots Q (F0 m pc ls (.int (nI k) :: .ref a :: rest)) := na_aldq hx hb hK (fl_P hP kw hL) q0 t0 ha ht hk hn hdg kk
theorem fa_iast (hx : p.tables.exec = Jvm.exec) (hb : c.code = cc) (hK : va_K D cl tys s) (hP : va_P D cl (fl L) H) (hD : va_D A (fl L)) (hS : va_S A H0 H locs) (kw q0 t0 : Nat) (hL : L[kw]? = some Y) {cA : ClassId} {n k : Nat} {f : Nat → Int32} (ha : Y[q0]? = some (a, .inl (cA, n, .inl f))) (ht : tys[t0]? = some (cA, .int)) {x : Int32} (hk : k < n) (hn : n < 2 ^ 31) (hdg : decode cc pc = .ok (.iastore, 1)) (kk : ∀ (H1 : Heap) (locs1 : List Loc), va_P D cl (fl (L.set kw (Y.set q0 (a, .inl (cA, n, .inl (upd f k x)))))) H1 → va_D A (fl (L.set kw (Y.set q0 (a, .inl (cA, n, .inl (upd f k x)))))) → va_S A H0 H1 locs1 → W p l e R s m args below meth c H1 locs1 cells slots Q (F0 m (pc + 1) ls rest)) : W p l e R s m args below meth c H locs cells slots Q (F0 m pc ls (.int x :: .int (nI k) :: .ref a :: rest)) := by
  obtain ⟨i, h1, h2⟩ := fl_at hL ha
  refine na_iast hx hb hK hP hD hS i t0 h1 ht hk hn hdg fun H1 locs1 h3 h4 h5 => ?_
  rw [h2] at h3 h4
  exact kk H1 locs1 h3 h4 h5
theorem fa_zast (hx : p.tables.exec = Jvm.exec) (hb : c.code = cc) (hK : va_K D cl tys s) (hP : va_P D cl (fl L) H) (hD : va_D A (fl L)) (hS : va_S A H0 H locs) (kw q0 t0 : Nat) (hL : L[kw]? = some Y) {cA : ClassId} {n k : Nat} {f : Nat → Int32} (ha : Y[q0]? = some (a, .inl (cA, n, .inl f))) (ht : tys[t0]? = some (cA, .boolean)) {x : Int32} (h01 : x = 0 ∨ x = 1) (hk : k < n) (hn : n < 2 ^ 31) (hdg : decode cc pc = .ok (.bastore, 1)) (kk : ∀ (H1 : Heap) (locs1 : List Loc), va_P D cl (fl (L.set kw (Y.set q0 (a, .inl (cA, n, .inl (upd f k x)))))) H1 → va_D A (fl (L.set kw (Y.set q0 (a, .inl (cA, n, .inl (upd f k x)))))) → va_S A H0 H1 locs1 → W p l e R s m args below meth c H1 locs1 cells slots Q (F0 m (pc + 1) ls rest)) : W p l e R s m args below meth c H locs cells slots Q (F0 m pc ls (.int x :: .int (nI k) :: .ref a :: rest)) := by
  obtain ⟨i, h1, h2⟩ := fl_at hL ha
  refine na_zast hx hb hK hP hD hS i t0 h1 ht h01 hk hn hdg fun H1 locs1 h3 h4 h5 => ?_
  rw [h2] at h3 h4
  exact kk H1 locs1 h3 h4 h5
theorem fa_last (hx : p.tables.exec = Jvm.exec) (hb : c.code = cc) (hK : va_K D cl tys s) (hP : va_P D cl (fl L) H) (hD : va_D A (fl L)) (hS : va_S A H0 H locs) (kw q0 t0 : Nat) (hL : L[kw]? = some Y) {cA : ClassId} {n k : Nat} {f : Nat → Int64} (ha : Y[q0]? = some (a, .inl (cA, n, .inr (.inl f)))) (ht : tys[t0]? = some (cA, .long)) {x : Int64} (hk : k < n) (hn : n < 2 ^ 31) (hdg : decode cc pc = .ok (.lastore, 1)) (kk : ∀ (H1 : Heap) (locs1 : List Loc), va_P D cl (fl (L.set kw (Y.set q0 (a, .inl (cA, n, .inr (.inl (vp_updL f k x))))))) H1 → va_D A (fl (L.set kw (Y.set q0 (a, .inl (cA, n, .inr (.inl (vp_updL f k x))))))) → va_S A H0 H1 locs1 → W p l e R s m args below meth c H1 locs1 cells slots Q (F0 m (pc + 1) ls rest)) : W p l e R s m args below meth c H locs cells slots Q (F0 m pc ls (.long x :: .int (nI k) :: .ref a :: rest)) := by
  obtain ⟨i, h1, h2⟩ := fl_at hL ha
  refine na_last hx hb hK hP hD hS i t0 h1 ht hk hn hdg fun H1 locs1 h3 h4 h5 => ?_
  rw [h2] at h3 h4
  exact kk H1 locs1 h3 h4 h5
end FA
end
section
/-! standard forms of contracts: a method over a world (fl L) that it may change, or only reads -/
def gPre (cl : List vw_C) (D : va_G) (tys : List (ClassId × FieldType)) (av : List Value) (w : va_W) (sz : Nat) : Array Value → State → Prop := va_Pc av (fun U => U.heap.size = sz ∧ va_P D cl w U.heap ∧ va_K D cl tys U ∧ va_D (fun _ => True) w)
def gPr (cl : List vw_C) (D : va_G) (tys : List (ClassId × FieldType)) (av : List Value) (w : va_W) : Array Value → State → Prop := va_Pc av (fun U => va_P D cl w U.heap ∧ va_K D cl tys U)
def gP0 (av : List Value) : Array Value → State → Prop := fun v _ => v = av.toArray
def gB (cl : List vw_C) (D : va_G) (tys : List (ClassId × FieldType)) (A : Nat → Prop) (w : va_W) (t : State) : Prop := va_P D cl w t.heap ∧ va_K D cl tys t ∧ va_D A w
def gQi (cl : List vw_C) (D : va_G) (tys : List (ClassId × FieldType)) (w : va_W) (sz : Nat) (f : Int32) (w1 : va_W) : Array Value → State → Outcome → State → Prop := va_Qi (fun r (_ : Unit) => r = f) (fun _ t => gB cl D tys (va_A w sz) w1 t) (va_A w sz)
def gQl (cl : List vw_C) (D : va_G) (tys : List (ClassId × FieldType)) (w : va_W) (sz : Nat) (f : Int64) (w1 : va_W) : Array Value → State → Outcome → State → Prop := va_Ql (fun r (_ : Unit) => r = f) (fun _ t => gB cl D tys (va_A w sz) w1 t) (va_A w sz)
def gQv (cl : List vw_C) (D : va_G) (tys : List (ClassId × FieldType)) (w : va_W) (sz : Nat) (w1 : va_W) : Array Value → State → Outcome → State → Prop := va_Qv (fun (_ : Unit) => True) (fun _ t => gB cl D tys (va_A w sz) w1 t) (va_A w sz)
theorem gPre_blind {cl : List vw_C} {D : va_G} {tys : List (ClassId × FieldType)} {av : List Value} {w : va_W} {sz : Nat} : FrameBlind (gPre cl D tys av w sz) := fun a U g mk q => by
  obtain ⟨q0, q1, qP, qK, qD⟩ := q
  exact ⟨q0, q1, qP, va_K.moved (u := U) (U := U.calling g mk a) (Vm.Alike.refl U.vm) qK, qD⟩
theorem gPr_blind {cl : List vw_C} {D : va_G} {tys : List (ClassId × FieldType)} {av : List Value} {w : va_W} : FrameBlind (gPr cl D tys av w) := fun a U g mk q => by
  obtain ⟨q0, qP, qK⟩ := q
  exact ⟨q0, qP, va_K.moved (u := U) (U := U.calling g mk a) (Vm.Alike.refl U.vm) qK⟩
section GP
variable {s : State} {H : Heap} {cl : List vw_C} {D : va_G} {tys : List (ClassId × FieldType)} {w : va_W} {A : Nat → Prop} {As : List Value} {C : String} {b : Addr}
theorem g_preS (hK : va_K D cl tys s) (hP : va_P D cl w H) (hD : va_D A w) : PreS s H (gPre cl D tys As w H.size) As := ⟨gPre_blind, fun U hU hW => ⟨rfl, by rw [hU], by rw [hU]; exact hP, va_K.moved hW.alike hK, hD.weaken (fun _ _ _ _ => trivial)⟩⟩
theorem g_preV (hr : ∃ cell : Cell, H[b]? = some cell ∧ cell.vm.isStatics = false ∧ s.vm.findClass C = some cell.cls) (hK : va_K D cl tys s) (hP : va_P D cl w H) (hD : va_D A w) : PreV s H C b (gPre cl D tys (.ref b :: As) w H.size) As := ⟨gPre_blind, hr, fun U hU hW => ⟨rfl, by rw [hU], by rw [hU]; exact hP, va_K.moved hW.alike hK, hD.weaken (fun _ _ _ _ => trivial)⟩⟩
theorem r_preS (hK : va_K D cl tys s) (hP : va_P D cl w H) : PreS s H (gPr cl D tys As w) As := ⟨gPr_blind, fun U hU hW => ⟨rfl, by rw [hU]; exact hP, va_K.moved hW.alike hK⟩⟩
theorem r_preV (hr : ∃ cell : Cell, H[b]? = some cell ∧ cell.vm.isStatics = false ∧ s.vm.findClass C = some cell.cls) (hK : va_K D cl tys s) (hP : va_P D cl w H) : PreV s H C b (gPr cl D tys (.ref b :: As) w) As := ⟨gPr_blind, hr, fun U hU hW => ⟨rfl, by rw [hU]; exact hP, va_K.moved hW.alike hK⟩⟩
theorem p0_preS : PreS s H (gP0 As) As := ⟨fun _ _ _ _ q => q, fun _ _ _ => rfl⟩
theorem fl_1 {Y : va_W} : fl [Y] = Y := by show Y ++ [] = Y; exact List.append_nil Y
theorem fl_D1 {L : List va_W} {Y : va_W} (hD : va_D A (fl L)) (k : Nat) (hL : L[k]? = some Y) : va_D A (fl [Y]) := by rw [fl_1]; exact fl_D hD k hL
theorem f_recv {L : List va_W} {Y : va_W} {q0 ci : Nat} {q : vw_C} {fs : List Value} (hK : va_K D cl tys s) (hP : va_P D cl (fl L) H) (kw : Nat) (hL : L[kw]? = some Y) (hc : cl[ci]? = some q) (he : Y[q0]? = some (b, .inr (ci, fs))) : ∃ cell : Cell, H[b]? = some cell ∧ cell.vm.isStatics = false ∧ s.vm.findClass q.1 = some cell.cls := va_recv hK (fl_P hP kw hL) hc he
end GP
theorem nar_b {v : Int32} (h : v = 0 ∨ v = 1) : narrow .boolean (.int v) = .int v := by rcases h with h | h <;> subst h <;> rfl
section GC
variable {p : Program} {l : Launch} {e : Env} {R : Room} {s : State} {m : MethodId} {args : Array Value} {below : List Frame} {meth : Method} {c : Code} {H : Heap} {locs : List Loc} {cells slots mc ms : Nat} {Q : State → Prop}
variable {pc : Nat} {ls : Array Slot} {rest st0 : List Value} {a : Array Value} {cl : List vw_C} {D : va_G} {tys : List (ClassId × FieldType)} {A : Nat → Prop} {L L1 : List va_W} {Y Y1 : va_W}
theorem r_calli {f : Int32} (hr : CallRun p l e R s m args below meth c H locs cells slots 0 0 (F0 m pc ls st0) rest (vp_Si (fun r => r = f) a) (fun _ => False)) (kk : W p l e R s m args below meth c H locs cells slots Q (F0 m (pc + 3) ls (.int f :: rest))) : W p l e R s m args below meth c H locs cells slots Q (F0 m pc ls st0) := vp_callSi hr (fun r h => by subst h; exact kk)
theorem g_calli {f : Int32} (hr : va_Run p l e R s m args below meth c H locs cells slots mc ms (F0 m pc ls st0) rest (gQi cl D tys (fl [Y]) H.size f (fl [Y1]) a) (va_A (fl [Y]) H.size)) (hS : va_S A s.heap H locs) (hA : ∀ q, s.heap.size ≤ q → A q) (hP : va_P D cl (fl L) H) (hD : va_D A (fl L)) (k : Nat) (hL : L[k]? = some Y) (kk : ∀ (H1 : Heap) (locs1 : List Loc), va_P D cl (fl (L.set k Y1)) H1 → va_D A (fl (L.set k Y1)) → va_S A s.heap H1 locs1 → W p l e R s m args below meth c H1 locs1 (cells + mc) (slots + ms) Q (F0 m (pc + 3) ls (.int f :: rest))) : W p l e R s m args below meth c H locs cells slots Q (F0 m pc ls st0) := by
  rw [fl_1, fl_1] at hr
  have hF := fl_free hD hS hA k hL
  refine va_calli hr hS (fun q _ h => hF q h) hF (fun r u t H1 locs1 ht hvm hw hB hz hk hS1 => ?_)
  subst hw
  obtain ⟨h1, h2⟩ := fr_k hP hD k hL hk hF (ht ▸ hB.1) hB.2.2
  exact kk H1 locs1 h1 h2 hS1
theorem g_calliA {f : Int32} (hr : va_Run p l e R s m args below meth c H locs cells slots mc ms (F0 m pc ls st0) rest (gQi cl D tys (fl L) H.size f (fl L1) a) (va_A (fl L) H.size)) (hS : va_S A s.heap H locs) (hA : ∀ q, s.heap.size ≤ q → A q) (hD : va_D A (fl L)) (kk : ∀ (H1 : Heap) (locs1 : List Loc), va_P D cl (fl L1) H1 → va_D A (fl L1) → va_S A s.heap H1 locs1 → W p l e R s m args below meth c H1 locs1 (cells + mc) (slots + ms) Q (F0 m (pc + 3) ls (.int f :: rest))) : W p l e R s m args below meth c H locs cells slots Q (F0 m pc ls st0) := by
  have hF := fl_freeA hD hS hA
  refine va_calli hr hS (fun q _ h => hF q h) hF (fun r u t H1 locs1 ht hvm hw hB hz hk hS1 => ?_)
  subst hw
  exact kk H1 locs1 (ht ▸ hB.1) (hB.2.2.weaken fun _ _ _ h => hF _ h) hS1
theorem r_calll {f : Int64} (hr : CallRun p l e R s m args below meth c H locs cells slots 0 0 (F0 m pc ls st0) rest (vp_Sl (fun r => r = f) a) (fun _ => False)) (kk : W p l e R s m args below meth c H locs cells slots Q (F0 m (pc + 3) ls (.long f :: rest))) : W p l e R s m args below meth c H locs cells slots Q (F0 m pc ls st0) := vp_callSl hr (fun r h => by subst h; exact kk)
theorem g_calll {f : Int64} (hr : va_Run p l e R s m args below meth c H locs cells slots mc ms (F0 m pc ls st0) rest (gQl cl D tys (fl [Y]) H.size f (fl [Y1]) a) (va_A (fl [Y]) H.size)) (hS : va_S A s.heap H locs) (hA : ∀ q, s.heap.size ≤ q → A q) (hP : va_P D cl (fl L) H) (hD : va_D A (fl L)) (k : Nat) (hL : L[k]? = some Y) (kk : ∀ (H1 : Heap) (locs1 : List Loc), va_P D cl (fl (L.set k Y1)) H1 → va_D A (fl (L.set k Y1)) → va_S A s.heap H1 locs1 → W p l e R s m args below meth c H1 locs1 (cells + mc) (slots + ms) Q (F0 m (pc + 3) ls (.long f :: rest))) : W p l e R s m args below meth c H locs cells slots Q (F0 m pc ls st0) := by
  rw [fl_1, fl_1] at hr
  have hF := fl_free hD hS hA k hL
  refine va_calll hr hS (fun q _ h => hF q h) hF (fun r u t H1 locs1 ht hvm hw hB hz hk hS1 => ?_)
  subst hw
  obtain ⟨h1, h2⟩ := fr_k hP hD k hL hk hF (ht ▸ hB.1) hB.2.2
  exact kk H1 locs1 h1 h2 hS1
theorem g_calllA {f : Int64} (hr : va_Run p l e R s m args below meth c H locs cells slots mc ms (F0 m pc ls st0) rest (gQl cl D tys (fl L) H.size f (fl L1) a) (va_A (fl L) H.size)) (hS : va_S A s.heap H locs) (hA : ∀ q, s.heap.size ≤ q → A q) (hD : va_D A (fl L)) (kk : ∀ (H1 : Heap) (locs1 : List Loc), va_P D cl (fl L1) H1 → va_D A (fl L1) → va_S A s.heap H1 locs1 → W p l e R s m args below meth c H1 locs1 (cells + mc) (slots + ms) Q (F0 m (pc + 3) ls (.long f :: rest))) : W p l e R s m args below meth c H locs cells slots Q (F0 m pc ls st0) := by
  have hF := fl_freeA hD hS hA
  refine va_calll hr hS (fun q _ h => hF q h) hF (fun r u t H1 locs1 ht hvm hw hB hz hk hS1 => ?_)
  subst hw
  exact kk H1 locs1 (ht ▸ hB.1) (hB.2.2.weaken fun _ _ _ h => hF _ h) hS1
theorem r_callv (hr : CallRun p l e R s m args below meth c H locs cells slots 0 0 (F0 m pc ls st0) rest (va_Sv (fun _ => True) a) (fun _ => False)) (kk : W p l e R s m args below meth c H locs cells slots Q (F0 m (pc + 3) ls (rest))) : W p l e R s m args below meth c H locs cells slots Q (F0 m pc ls st0) := va_csv hr (fun _ => kk)
theorem g_callv (hr : va_Run p l e R s m args below meth c H locs cells slots mc ms (F0 m pc ls st0) rest (gQv cl D tys (fl [Y]) H.size (fl [Y1]) a) (va_A (fl [Y]) H.size)) (hS : va_S A s.heap H locs) (hA : ∀ q, s.heap.size ≤ q → A q) (hP : va_P D cl (fl L) H) (hD : va_D A (fl L)) (k : Nat) (hL : L[k]? = some Y) (kk : ∀ (H1 : Heap) (locs1 : List Loc), va_P D cl (fl (L.set k Y1)) H1 → va_D A (fl (L.set k Y1)) → va_S A s.heap H1 locs1 → W p l e R s m args below meth c H1 locs1 (cells + mc) (slots + ms) Q (F0 m (pc + 3) ls (rest))) : W p l e R s m args below meth c H locs cells slots Q (F0 m pc ls st0) := by
  rw [fl_1, fl_1] at hr
  have hF := fl_free hD hS hA k hL
  refine va_callv hr hS (fun q _ h => hF q h) hF (fun u t H1 locs1 ht hvm hw hB hz hk hS1 => ?_)
  obtain ⟨h1, h2⟩ := fr_k hP hD k hL hk hF (ht ▸ hB.1) hB.2.2
  exact kk H1 locs1 h1 h2 hS1
theorem g_callvA (hr : va_Run p l e R s m args below meth c H locs cells slots mc ms (F0 m pc ls st0) rest (gQv cl D tys (fl L) H.size (fl L1) a) (va_A (fl L) H.size)) (hS : va_S A s.heap H locs) (hA : ∀ q, s.heap.size ≤ q → A q) (hD : va_D A (fl L)) (kk : ∀ (H1 : Heap) (locs1 : List Loc), va_P D cl (fl L1) H1 → va_D A (fl L1) → va_S A s.heap H1 locs1 → W p l e R s m args below meth c H1 locs1 (cells + mc) (slots + ms) Q (F0 m (pc + 3) ls (rest))) : W p l e R s m args below meth c H locs cells slots Q (F0 m pc ls st0) := by
  have hF := fl_freeA hD hS hA
  refine va_callv hr hS (fun q _ h => hF q h) hF (fun u t H1 locs1 ht hvm hw hB hz hk hS1 => ?_)
  exact kk H1 locs1 (ht ▸ hB.1) (hB.2.2.weaken fun _ _ _ h => hF _ h) hS1
theorem r_callq {f : Option Nat} (hr : CallRun p l e R s m args below meth c H locs cells slots 0 0 (F0 m pc ls st0) rest (va_Sq (fun r => r = f) a) (fun _ => False)) (kk : W p l e R s m args below meth c H locs cells slots Q (F0 m (pc + 3) ls (va_rf f :: rest))) : W p l e R s m args below meth c H locs cells slots Q (F0 m pc ls st0) := va_csq hr (fun r h => by subst h; exact kk)
end GC
end
section
def R_P : String := "PartShelves"
def F_P : u_T := fun k => match k with
  | 0 => ("PartShelves", "prices", "LPartShelves$PriceRows;", true)
  | 1 => ("PartShelves", "fitting", "[Z", true)
  | 2 => ("PartShelves", "parts", "Ljava/util/ArrayList;", true)
  | 3 => ("PartShelves", "asks", "Ljava/util/ArrayList;", true)
  | 4 => ("PartShelves", "jobs", "Ljava/util/ArrayList;", true)
  | 5 => ("PartShelves", "matching", "LPartShelves$Matching;", true)
  | 6 => ("PartShelves", "repairPlan", "LPartShelves$RepairPlan;", true)
  | 7 => ("PartShelves", "warrantyDays", "[I", true)
  | 8 => ("PartShelves", "toldAsSold", "[I", true)
  | 9 => ("PartShelves", "toldCount", "I", false)
  | 10 => ("PartShelves", "borrowers", "[I", true)
  | 11 => ("PartShelves", "lentUpTo", "[I", true)
  | _ => ("PartShelves", "currentDay", "I", false)
def t_P : Nat → FieldType := fun k => match k with
  | 0 => .object "PartShelves$PriceRows"
  | 1 => .array .boolean
  | 2 => .object "java/util/ArrayList"
  | 3 => .object "java/util/ArrayList"
  | 4 => .object "java/util/ArrayList"
  | 5 => .object "PartShelves$Matching"
  | 6 => .object "PartShelves$RepairPlan"
  | 7 => .array .int
  | 8 => .array .int
  | 9 => .int
  | 10 => .array .int
  | 11 => .array .int
  | _ => .int
theorem n_P : ∀ a, a < 13 → ∀ b, b < 13 → a ≠ b → (F_P a).2.1 ≠ (F_P b).2.1 := by decide +kernel
theorem t_P_ok : ∀ k, k < 13 → parseFieldDescriptor (F_P k).2.2.1 = some (t_P k) := by decide +kernel
def R_A : String := "PartShelves$Ask"
def F_A : u_T := fun k => match k with
  | 0 => ("PartShelves$Ask", "number", "I", true)
  | 1 => ("PartShelves$Ask", "product", "I", true)
  | 2 => ("PartShelves$Ask", "cents", "J", true)
  | 3 => ("PartShelves$Ask", "minute", "J", true)
  | _ => ("PartShelves$Ask", "open", "Z", false)
def t_A : Nat → FieldType := fun k => match k with
  | 0 => .int
  | 1 => .int
  | 2 => .long
  | 3 => .long
  | _ => .boolean
theorem n_A : ∀ a, a < 5 → ∀ b, b < 5 → a ≠ b → (F_A a).2.1 ≠ (F_A b).2.1 := by decide +kernel
theorem t_A_ok : ∀ k, k < 5 → parseFieldDescriptor (F_A k).2.2.1 = some (t_A k) := by decide +kernel
def R_J : String := "PartShelves$Job"
def F_J : u_T := fun k => match k with
  | _ => ("PartShelves$Job", "needs", "[I", true)
def t_J : Nat → FieldType := fun k => match k with
  | _ => .array .int
theorem n_J : ∀ a, a < 1 → ∀ b, b < 1 → a ≠ b → (F_J a).2.1 ≠ (F_J b).2.1 := by decide +kernel
theorem t_J_ok : ∀ k, k < 1 → parseFieldDescriptor (F_J k).2.2.1 = some (t_J k) := by decide +kernel
def R_M : String := "PartShelves$Matching"
def F_M : u_T := fun k => match k with
  | 0 => ("PartShelves$Matching", "shares", "[J", true)
  | 1 => ("PartShelves$Matching", "best", "[J", true)
  | 2 => ("PartShelves$Matching", "optionBits", "[I", true)
  | 3 => ("PartShelves$Matching", "optionShares", "[J", true)
  | 4 => ("PartShelves$Matching", "optionCount", "I", false)
  | 5 => ("PartShelves$Matching", "askByRank", "[I", true)
  | 6 => ("PartShelves$Matching", "given", "[I", true)
  | 7 => ("PartShelves$Matching", "partGains", "[J", true)
  | 8 => ("PartShelves$Matching", "askGains", "[J", true)
  | 9 => ("PartShelves$Matching", "partCount", "I", false)
  | 10 => ("PartShelves$Matching", "askCount", "I", false)
  | 11 => ("PartShelves$Matching", "pairCount", "I", false)
  | _ => ("PartShelves$Matching", "total", "J", false)
def t_M : Nat → FieldType := fun k => match k with
  | 0 => .array .long
  | 1 => .array .long
  | 2 => .array .int
  | 3 => .array .long
  | 4 => .int
  | 5 => .array .int
  | 6 => .array .int
  | 7 => .array .long
  | 8 => .array .long
  | 9 => .int
  | 10 => .int
  | 11 => .int
  | _ => .long
theorem n_M : ∀ a, a < 13 → ∀ b, b < 13 → a ≠ b → (F_M a).2.1 ≠ (F_M b).2.1 := by decide +kernel
theorem t_M_ok : ∀ k, k < 13 → parseFieldDescriptor (F_M k).2.2.1 = some (t_M k) := by decide +kernel
def R_Q : String := "PartShelves$Part"
def F_Q : u_T := fun k => match k with
  | 0 => ("PartShelves$Part", "kind", "I", true)
  | 1 => ("PartShelves$Part", "age", "I", true)
  | 2 => ("PartShelves$Part", "serial", "J", true)
  | 3 => ("PartShelves$Part", "state", "I", false)
  | 4 => ("PartShelves$Part", "day", "I", false)
  | 5 => ("PartShelves$Part", "holder", "I", false)
  | _ => ("PartShelves$Part", "person", "I", false)
def t_Q : Nat → FieldType := fun k => match k with
  | 0 => .int
  | 1 => .int
  | 2 => .long
  | 3 => .int
  | 4 => .int
  | 5 => .int
  | _ => .int
theorem n_Q : ∀ a, a < 7 → ∀ b, b < 7 → a ≠ b → (F_Q a).2.1 ≠ (F_Q b).2.1 := by decide +kernel
theorem t_Q_ok : ∀ k, k < 7 → parseFieldDescriptor (F_Q k).2.2.1 = some (t_Q k) := by decide +kernel
def R_R : String := "PartShelves$PriceRows"
def F_R : u_T := fun k => match k with
  | 0 => ("PartShelves$PriceRows", "ages", "[I", true)
  | 1 => ("PartShelves$PriceRows", "cents", "[J", true)
  | _ => ("PartShelves$PriceRows", "count", "I", false)
def t_R : Nat → FieldType := fun k => match k with
  | 0 => .array .int
  | 1 => .array .long
  | _ => .int
theorem n_R : ∀ a, a < 3 → ∀ b, b < 3 → a ≠ b → (F_R a).2.1 ≠ (F_R b).2.1 := by decide +kernel
theorem t_R_ok : ∀ k, k < 3 → parseFieldDescriptor (F_R k).2.2.1 = some (t_R k) := by decide +kernel
def R_N : String := "PartShelves$RepairPlan"
def F_N : u_T := fun k => match k with
  | 0 => ("PartShelves$RepairPlan", "freePrices", "[[J", true)
  | 1 => ("PartShelves$RepairPlan", "freeCounts", "[I", true)
  | 2 => ("PartShelves$RepairPlan", "total", "J", false)
  | _ => ("PartShelves$RepairPlan", "chosen", "I", false)
def t_N : Nat → FieldType := fun k => match k with
  | 0 => .array (.array .long)
  | 1 => .array .int
  | 2 => .long
  | _ => .int
theorem n_N : ∀ a, a < 4 → ∀ b, b < 4 → a ≠ b → (F_N a).2.1 ≠ (F_N b).2.1 := by decide +kernel
theorem t_N_ok : ∀ k, k < 4 → parseFieldDescriptor (F_N k).2.2.1 = some (t_N k) := by decide +kernel
def R_O : String := "PartShelvesModel"
def F_O : u_T := fun k => match k with
  | 0 => ("PartShelvesModel", "today", "I", false)
  | 1 => ("PartShelvesModel", "rows", "I", false)
  | 2 => ("PartShelvesModel", "rowAges", "[I", true)
  | 3 => ("PartShelvesModel", "rowCents", "[J", true)
  | 4 => ("PartShelvesModel", "fits", "[Z", true)
  | 5 => ("PartShelvesModel", "parts", "I", false)
  | 6 => ("PartShelvesModel", "kinds", "[I", true)
  | 7 => ("PartShelvesModel", "ages", "[I", true)
  | 8 => ("PartShelvesModel", "serials", "[J", true)
  | 9 => ("PartShelvesModel", "states", "[I", true)
  | 10 => ("PartShelvesModel", "whose", "[I", true)
  | 11 => ("PartShelvesModel", "days", "[I", true)
  | 12 => ("PartShelvesModel", "asks", "I", false)
  | 13 => ("PartShelvesModel", "products", "[I", true)
  | 14 => ("PartShelvesModel", "cents", "[J", true)
  | 15 => ("PartShelvesModel", "minutes", "[J", true)
  | 16 => ("PartShelvesModel", "served", "[Z", true)
  | 17 => ("PartShelvesModel", "jobs", "I", false)
  | 18 => ("PartShelvesModel", "needed", "[I", true)
  | 19 => ("PartShelvesModel", "warranties", "[I", true)
  | 20 => ("PartShelvesModel", "tellCount", "I", false)
  | 21 => ("PartShelvesModel", "tells", "[I", true)
  | 22 => ("PartShelvesModel", "lent", "[Z", true)
  | 23 => ("PartShelvesModel", "lentTo", "[I", true)
  | 24 => ("PartShelvesModel", "lentDay", "[I", true)
  | 25 => ("PartShelvesModel", "isMatched", "Z", false)
  | 26 => ("PartShelvesModel", "foundWorth", "J", false)
  | 27 => ("PartShelvesModel", "given", "[I", true)
  | 28 => ("PartShelvesModel", "gainParts", "I", false)
  | 29 => ("PartShelvesModel", "gainAsks", "I", false)
  | 30 => ("PartShelvesModel", "gains", "[J", true)
  | 31 => ("PartShelvesModel", "isPlanned", "Z", false)
  | 32 => ("PartShelvesModel", "foundCost", "J", false)
  | 33 => ("PartShelvesModel", "foundJobs", "I", false)
  | 34 => ("PartShelvesModel", "order", "[I", true)
  | _ => ("PartShelvesModel", "brings", "[J", true)
def t_O : Nat → FieldType := fun k => match k with
  | 0 => .int
  | 1 => .int
  | 2 => .array .int
  | 3 => .array .long
  | 4 => .array .boolean
  | 5 => .int
  | 6 => .array .int
  | 7 => .array .int
  | 8 => .array .long
  | 9 => .array .int
  | 10 => .array .int
  | 11 => .array .int
  | 12 => .int
  | 13 => .array .int
  | 14 => .array .long
  | 15 => .array .long
  | 16 => .array .boolean
  | 17 => .int
  | 18 => .array .int
  | 19 => .array .int
  | 20 => .int
  | 21 => .array .int
  | 22 => .array .boolean
  | 23 => .array .int
  | 24 => .array .int
  | 25 => .boolean
  | 26 => .long
  | 27 => .array .int
  | 28 => .int
  | 29 => .int
  | 30 => .array .long
  | 31 => .boolean
  | 32 => .long
  | 33 => .int
  | 34 => .array .int
  | _ => .array .long
theorem n_O : ∀ a, a < 36 → ∀ b, b < 36 → a ≠ b → (F_O a).2.1 ≠ (F_O b).2.1 := by decide +kernel
theorem t_O_ok : ∀ k, k < 36 → parseFieldDescriptor (F_O k).2.2.1 = some (t_O k) := by decide +kernel
def R_L : String := "java/util/ArrayList"
def F_L : u_T := fun k => match k with
  | 0 => ("java/util/AbstractList", "modCount", "I", false)
  | 1 => ("java/util/ArrayList", "elementData", "[Ljava/lang/Object;", false)
  | _ => ("java/util/ArrayList", "size", "I", false)
def t_L : Nat → FieldType := fun k => match k with
  | 0 => .int
  | 1 => .array (.object "java/lang/Object")
  | _ => .int
theorem n_L : ∀ a, a < 3 → ∀ b, b < 3 → a ≠ b → (F_L a).2.1 ≠ (F_L b).2.1 := by decide +kernel
theorem t_L_ok : ∀ k, k < 3 → parseFieldDescriptor (F_L k).2.2.1 = some (t_L k) := by decide +kernel
abbrev cls : List vw_C := [(R_P, F_P, 13), (R_A, F_A, 5), (R_J, F_J, 1), (R_M, F_M, 13), (R_Q, F_Q, 7), (R_R, F_R, 3), (R_N, F_N, 4), (R_O, F_O, 36), (R_L, F_L, 3)]
/-- the array classes that the worlds hold, by numbers: int, long, boolean, Object, long[] -/
abbrev tyL (kC : Nat → ClassId) : List (ClassId × FieldType) := [(kC 0, .int), (kC 1, .long), (kC 2, .boolean), (kC 3, .object "java/lang/Object"), (kC 4, .array .long)]
end
section
theorem nx_and (a b : Nat) : nI a &&& nI b = nI (a &&& b) := by
  apply Int32.toBitVec_inj.1
  show BitVec.ofNat 32 a &&& BitVec.ofNat 32 b = BitVec.ofNat 32 (a &&& b)
  apply BitVec.eq_of_getLsbD_eq
  intro i hi
  simp [hi]
theorem nx_xor (a b : Nat) : nI a ^^^ nI b = nI (a ^^^ b) := by
  apply Int32.toBitVec_inj.1
  show BitVec.ofNat 32 a ^^^ BitVec.ofNat 32 b = BitVec.ofNat 32 (a ^^^ b)
  apply BitVec.eq_of_getLsbD_eq
  intro i hi
  simp [hi]
end
section
/-! pure: assignments of rows to members, the greatest weight by sets of members -/
def okF (sh : Nat → Nat → Option Nat) (S : Nat → Bool) (k : Nat) (f : Nat → Option Nat) : Prop :=
  (∀ a, a < k → ∀ p, f a = some p → S p = true ∧ ∃ v, sh a p = some v) ∧ (∀ a b, a < k → b < k → ∀ p, f a = some p → f b = some p → a = b)
def wt1 (r : Nat → Option Nat) (x : Option Nat) : Nat := match x with
  | none => 0
  | some p => (r p).getD 0
def wt (sh : Nat → Nat → Option Nat) (f : Nat → Option Nat) : Nat → Nat
  | 0 => 0
  | k + 1 => wt sh f k + wt1 (sh k) (f k)
def rowOpt (g : Nat → Nat) (r : Nat → Option Nat) (S : Nat) : Nat → Nat
  | 0 => g S
  | p + 1 => if S.testBit p = true then (match r p with | some v => max (rowOpt g r S p) (g (S ^^^ 2 ^ p) + v) | none => rowOpt g r S p) else rowOpt g r S p
def opt (sh : Nat → Nat → Option Nat) (M : Nat) : Nat → Nat → Nat
  | 0, _ => 0
  | k + 1, S => rowOpt (opt sh M k) (sh k) S M
theorem rowOpt_step (g : Nat → Nat) (r : Nat → Option Nat) (S p : Nat) : rowOpt g r S p ≤ rowOpt g r S (p + 1) := by
  show _ ≤ (if S.testBit p = true then (match r p with | some v => max (rowOpt g r S p) (g (S ^^^ 2 ^ p) + v) | none => rowOpt g r S p) else rowOpt g r S p)
  split
  · split
    · exact Nat.le_max_left _ _
    · exact Nat.le_refl _
  · exact Nat.le_refl _
theorem rowOpt_base (g : Nat → Nat) (r : Nat → Option Nat) (S : Nat) : ∀ M, g S ≤ rowOpt g r S M
  | 0 => Nat.le_refl _
  | M + 1 => Nat.le_trans (rowOpt_base g r S M) (rowOpt_step g r S M)
theorem rowOpt_ge (g : Nat → Nat) (r : Nat → Option Nat) (S : Nat) {p v : Nat} (hb : S.testBit p = true) (hr : r p = some v) : ∀ M, p < M → g (S ^^^ 2 ^ p) + v ≤ rowOpt g r S M
  | 0, h => absurd h (Nat.not_lt_zero _)
  | M + 1, h => by
    by_cases e : p = M
    · subst e
      show _ ≤ (if S.testBit p = true then (match r p with | some v => max (rowOpt g r S p) (g (S ^^^ 2 ^ p) + v) | none => rowOpt g r S p) else rowOpt g r S p)
      rw [if_pos hb, hr]
      exact Nat.le_max_right _ _
    · exact Nat.le_trans (rowOpt_ge g r S hb hr M (by omega)) (rowOpt_step g r S M)
theorem rowOpt_or (g : Nat → Nat) (r : Nat → Option Nat) (S : Nat) : ∀ M, rowOpt g r S M = g S ∨ ∃ p v, p < M ∧ S.testBit p = true ∧ r p = some v ∧ rowOpt g r S M = g (S ^^^ 2 ^ p) + v
  | 0 => Or.inl rfl
  | M + 1 => by
    have key : rowOpt g r S (M + 1) = rowOpt g r S M ∨ ∃ v, S.testBit M = true ∧ r M = some v ∧ rowOpt g r S (M + 1) = g (S ^^^ 2 ^ M) + v := by
      show (if S.testBit M = true then (match r M with | some v => max (rowOpt g r S M) (g (S ^^^ 2 ^ M) + v) | none => rowOpt g r S M) else rowOpt g r S M) = _ ∨ ∃ v, S.testBit M = true ∧ r M = some v ∧ (if S.testBit M = true then (match r M with | some v => max (rowOpt g r S M) (g (S ^^^ 2 ^ M) + v) | none => rowOpt g r S M) else rowOpt g r S M) = _
      by_cases hb : S.testBit M = true
      · rw [if_pos hb]
        cases hr : r M with
        | none => exact Or.inl rfl
        | some v =>
          by_cases hm : rowOpt g r S M ≤ g (S ^^^ 2 ^ M) + v
          · exact Or.inr ⟨v, hb, rfl, Nat.max_eq_right hm⟩
          · exact Or.inl (Nat.max_eq_left (by omega))
      · rw [if_neg hb]
        exact Or.inl rfl
    rcases key with h | ⟨v, h1, h2, h3⟩
    · rcases rowOpt_or g r S M with q | ⟨p, v, q1, q2, q3, q4⟩
      · exact Or.inl (h.trans q)
      · exact Or.inr ⟨p, v, by omega, q2, q3, h.trans q4⟩
    · exact Or.inr ⟨M, v, by omega, h1, h2, h3⟩
theorem tb_xor (S p q : Nat) (h : q ≠ p) : (S ^^^ 2 ^ p).testBit q = S.testBit q := by
  rw [Nat.testBit_xor, Nat.testBit_two_pow, decide_eq_false (Ne.symm h), Bool.xor_false]
theorem tb_xorS (S p : Nat) : (S ^^^ 2 ^ p).testBit p = !S.testBit p := by
  rw [Nat.testBit_xor, Nat.testBit_two_pow, decide_eq_true rfl, Bool.xor_true]
def setB (M S : Nat) : Nat → Bool := fun p => decide (p < M) && S.testBit p
theorem opt_ub (sh : Nat → Nat → Option Nat) (M : Nat) : ∀ (k S : Nat) (f : Nat → Option Nat), okF sh (setB M S) k f → wt sh f k ≤ opt sh M k S
  | 0, _, _, _ => Nat.le_refl _
  | k + 1, S, f, h => by
    have hk : okF sh (setB M S) k f := ⟨fun a ha => h.1 a (by omega), fun a b ha hb => h.2 a b (by omega) (by omega)⟩
    show wt sh f k + wt1 (sh k) (f k) ≤ rowOpt (opt sh M k) (sh k) S M
    cases hf : f k with
    | none => exact Nat.le_trans (opt_ub sh M k S f hk) (rowOpt_base _ _ _ _)
    | some p =>
      obtain ⟨hs, v, hv⟩ := h.1 k (Nat.lt_succ_self k) p hf
      simp only [setB, Bool.and_eq_true, decide_eq_true_eq] at hs
      have h2 : okF sh (setB M (S ^^^ 2 ^ p)) k f := by
        refine ⟨fun a ha q hq => ?_, hk.2⟩
        obtain ⟨e1, e2⟩ := hk.1 a ha q hq
        have hne : q ≠ p := fun e => by
          subst e
          have := h.2 a k (by omega) (Nat.lt_succ_self k) q hq hf
          omega
        refine ⟨?_, e2⟩
        simp only [setB, Bool.and_eq_true, decide_eq_true_eq] at e1 ⊢
        exact ⟨e1.1, by rw [tb_xor _ _ _ hne]; exact e1.2⟩
      have h3 := opt_ub sh M k (S ^^^ 2 ^ p) f h2
      have h4 := rowOpt_ge (opt sh M k) (sh k) S hs.2 hv M hs.1
      have h5 : wt1 (sh k) (some p) = v := by simp [wt1, hv]
      rw [h5]
      omega
theorem wt_congr (sh : Nat → Nat → Option Nat) {f g : Nat → Option Nat} : ∀ k, (∀ a, a < k → f a = g a) → wt sh f k = wt sh g k
  | 0, _ => rfl
  | k + 1, h => by
    show wt sh f k + wt1 (sh k) (f k) = wt sh g k + wt1 (sh k) (g k)
    rw [wt_congr sh k (fun a ha => h a (by omega)), h k (by omega)]
def updO (f : Nat → Option Nat) (a : Nat) (x : Option Nat) : Nat → Option Nat := fun b => if b = a then x else f b
theorem updO_s (f : Nat → Option Nat) (a : Nat) (x : Option Nat) : updO f a x a = x := if_pos rfl
theorem updO_n (f : Nat → Option Nat) {a b : Nat} (x : Option Nat) (h : b ≠ a) : updO f a x b = f b := if_neg h
theorem opt_ex (sh : Nat → Nat → Option Nat) (M : Nat) : ∀ (k S : Nat), ∃ f, okF sh (setB M S) k f ∧ wt sh f k = opt sh M k S ∧ ∀ a, k ≤ a → f a = none
  | 0, _ => ⟨fun _ => none, ⟨fun a ha => absurd ha (Nat.not_lt_zero _), fun a _ ha => absurd ha (Nat.not_lt_zero _)⟩, rfl, fun _ _ => rfl⟩
  | k + 1, S => by
    rcases rowOpt_or (opt sh M k) (sh k) S M with h | ⟨p, v, hp, hb, hv, h⟩
    · obtain ⟨f, h1, h2, h3⟩ := opt_ex sh M k S
      have hn : f k = none := h3 k (Nat.le_refl k)
      refine ⟨f, ⟨fun a ha q hq => ?_, fun a b ha hb q hqa hqb => ?_⟩, ?_, fun a ha => h3 a (by omega)⟩
      · by_cases e : a = k
        · subst e; rw [hn] at hq; cases hq
        · exact h1.1 a (by omega) q hq
      · have ea : a ≠ k := fun e => by subst e; rw [hn] at hqa; cases hqa
        have eb : b ≠ k := fun e => by subst e; rw [hn] at hqb; cases hqb
        exact h1.2 a b (by omega) (by omega) q hqa hqb
      · show wt sh f k + wt1 (sh k) (f k) = rowOpt (opt sh M k) (sh k) S M
        rw [hn, h, h2]
        rfl
    · obtain ⟨f, h1, h2, h3⟩ := opt_ex sh M k (S ^^^ 2 ^ p)
      refine ⟨updO f k (some p), ⟨fun a ha q hq => ?_, fun a b ha hb2 q hqa hqb => ?_⟩, ?_, fun a ha => ?_⟩
      · by_cases e : a = k
        · subst e
          rw [updO_s] at hq
          cases hq
          refine ⟨?_, v, hv⟩
          simp only [setB, Bool.and_eq_true, decide_eq_true_eq]
          exact ⟨hp, hb⟩
        · rw [updO_n _ _ e] at hq
          obtain ⟨e1, e2⟩ := h1.1 a (by omega) q hq
          refine ⟨?_, e2⟩
          simp only [setB, Bool.and_eq_true, decide_eq_true_eq] at e1 ⊢
          have hne : q ≠ p := fun e3 => by
            subst e3
            rw [tb_xorS, hb] at e1
            exact absurd e1.2 (by decide)
          rw [tb_xor _ _ _ hne] at e1
          exact e1
      · have key : ∀ c, c < k → f c = some p → False := fun c hc hfc => by
          have e1 := (h1.1 c hc p hfc).1
          simp only [setB, Bool.and_eq_true, decide_eq_true_eq] at e1
          rw [tb_xorS, hb] at e1
          exact absurd e1.2 (by decide)
        by_cases ea : a = k <;> by_cases eb : b = k
        · omega
        · rw [ea, updO_s] at hqa
          rw [updO_n _ _ eb] at hqb
          cases hqa
          exact (key b (by omega) hqb).elim
        · rw [updO_n _ _ ea] at hqa
          rw [eb, updO_s] at hqb
          cases hqb
          exact (key a (by omega) hqa).elim
        · rw [updO_n _ _ ea] at hqa
          rw [updO_n _ _ eb] at hqb
          exact h1.2 a b (by omega) (by omega) q hqa hqb
      · show wt sh (updO f k (some p)) k + wt1 (sh k) (updO f k (some p) k) = rowOpt (opt sh M k) (sh k) S M
        rw [wt_congr sh (g := f) k (fun a ha => updO_n _ _ (by omega)), updO_s, h, h2]
        simp [wt1, hv]
      · rw [updO_n _ _ (show a ≠ k by omega)]
        exact h3 a (by omega)
end
section
/-! pure: numbers by digits to the base 9, each ask's digit at its own place -/
theorem p9 (n : Nat) : 0 < 9 ^ n := Nat.pow_pos (by decide)
theorem p9s (n : Nat) : 9 ^ (n + 1) = 9 * 9 ^ n := by rw [Nat.pow_succ, Nat.mul_comm]
theorem dg_split {X j0 : Nat} (hz : X / 9 ^ j0 % 9 = 0) : ∃ A B, B < 9 ^ j0 ∧ X = 9 ^ j0 * (9 * A) + B := by
  refine ⟨X / 9 ^ j0 / 9, X % 9 ^ j0, Nat.mod_lt _ (p9 j0), ?_⟩
  have h1 : 9 * (X / 9 ^ j0 / 9) = X / 9 ^ j0 := by omega
  rw [h1]
  exact (Nat.div_add_mod X (9 ^ j0)).symm
theorem dg_add {X d j0 : Nat} (hz : X / 9 ^ j0 % 9 = 0) (hd : d < 9) (j : Nat) : (X + d * 9 ^ j0) / 9 ^ j % 9 = if j = j0 then d else X / 9 ^ j % 9 := by
  obtain ⟨A, B, hB, rfl⟩ := dg_split hz
  have e1 : 9 ^ j0 * (9 * A) + B + d * 9 ^ j0 = 9 ^ j0 * (9 * A + d) + B := by rw [Nat.mul_add, Nat.mul_comm d]; omega
  rw [e1]
  have div0 : ∀ Z : Nat, (9 ^ j0 * Z + B) / 9 ^ j0 = Z := fun Z => by
    rw [Nat.mul_add_div (p9 j0), Nat.div_eq_of_lt hB, Nat.add_zero]
  by_cases h : j = j0
  · subst h
    rw [if_pos rfl, div0]
    omega
  · rw [if_neg h]
    rcases Nat.lt_or_gt_of_ne h with hlt | hgt
    · obtain ⟨i, hi⟩ : ∃ i, j0 = j + (i + 1) := ⟨j0 - j - 1, by omega⟩
      subst hi
      have e2 : ∀ Z : Nat, 9 ^ (j + (i + 1)) * Z + B = 9 ^ j * (9 * (9 ^ i * Z)) + B := fun Z => by
        rw [Nat.pow_add, p9s, Nat.mul_assoc, Nat.mul_assoc]
      rw [e2, e2, Nat.mul_add_div (p9 j), Nat.mul_add_div (p9 j)]
      omega
    · obtain ⟨i, hi⟩ : ∃ i, j = j0 + (i + 1) := ⟨j - j0 - 1, by omega⟩
      subst hi
      rw [Nat.pow_add, ← Nat.div_div_eq_div_mul, ← Nat.div_div_eq_div_mul, div0, div0, p9s, ← Nat.div_div_eq_div_mul, ← Nat.div_div_eq_div_mul]
      have e3 : (9 * A + d) / 9 = A := by omega
      have e4 : 9 * A / 9 = A := by omega
      rw [e3, e4]
theorem dg_lt {X d j0 m : Nat} (hz : X / 9 ^ j0 % 9 = 0) (hd : d < 9) (hj : j0 < m) (hX : X < 9 ^ m) : X + d * 9 ^ j0 < 9 ^ m := by
  obtain ⟨A, B, hB, rfl⟩ := dg_split hz
  obtain ⟨i, hi⟩ : ∃ i, m = j0 + (i + 1) := ⟨m - j0 - 1, by omega⟩
  subst hi
  rw [Nat.pow_add, p9s] at hX ⊢
  have h1 : 9 * A < 9 * 9 ^ i := by
    rcases Nat.lt_or_ge (9 * A) (9 * 9 ^ i) with q | q
    · exact q
    · exact absurd hX (Nat.not_lt.mpr (Nat.le_trans (Nat.mul_le_mul_left (9 ^ j0) q) (Nat.le_add_right _ _)))
  have h2 : 9 * A + d + 1 ≤ 9 * 9 ^ i := by omega
  have h3 := Nat.mul_le_mul_left (9 ^ j0) h2
  have e1 : 9 ^ j0 * (9 * A + d + 1) = 9 ^ j0 * (9 * A) + d * 9 ^ j0 + 9 ^ j0 := by
    rw [Nat.mul_add, Nat.mul_add, Nat.mul_one, Nat.mul_comm (9 ^ j0) d]
  omega
def dig (d pos : Nat → Nat) : Nat → Nat
  | 0 => 0
  | k + 1 => dig d pos k + d k * 9 ^ pos k
theorem dig_at {d pos : Nat → Nat} : ∀ k, (∀ a, a < k → d a < 9) → (∀ a b, a < k → b < k → pos a = pos b → a = b) → (∀ j, (∀ a, a < k → pos a ≠ j) → dig d pos k / 9 ^ j % 9 = 0) ∧ (∀ a, a < k → dig d pos k / 9 ^ pos a % 9 = d a)
  | 0, _, _ => ⟨fun j _ => by show 0 / 9 ^ j % 9 = 0; rw [Nat.zero_div], fun a ha => absurd ha (Nat.not_lt_zero _)⟩
  | k + 1, hd, hp => by
    obtain ⟨h1, h2⟩ := dig_at k (fun a ha => hd a (by omega)) (fun a b ha hb => hp a b (by omega) (by omega))
    have hz : dig d pos k / 9 ^ pos k % 9 = 0 := h1 (pos k) (fun a ha e => by have := hp a k (by omega) (by omega) e; omega)
    refine ⟨fun j hj => ?_, fun a ha => ?_⟩
    · show (dig d pos k + d k * 9 ^ pos k) / 9 ^ j % 9 = 0
      rw [dg_add hz (hd k (by omega)), if_neg (fun e => hj k (by omega) e.symm)]
      exact h1 j (fun a ha => hj a (by omega))
    · show (dig d pos k + d k * 9 ^ pos k) / 9 ^ pos a % 9 = d a
      rw [dg_add hz (hd k (by omega))]
      by_cases e : a = k
      · subst e; rw [if_pos rfl]
      · rw [if_neg (fun q => e (hp a k ha (by omega) q))]
        exact h2 a (by omega)
theorem dig_lt {d pos : Nat → Nat} {m : Nat} : ∀ k, (∀ a, a < k → d a < 9) → (∀ a b, a < k → b < k → pos a = pos b → a = b) → (∀ a, a < k → pos a < m) → dig d pos k < 9 ^ m
  | 0, _, _, _ => p9 m
  | k + 1, hd, hp, hm => by
    have h1 := dig_at (d := d) (pos := pos) k (fun a ha => hd a (by omega)) (fun a b ha hb => hp a b (by omega) (by omega))
    have hz : dig d pos k / 9 ^ pos k % 9 = 0 := h1.1 (pos k) (fun a ha e => by have := hp a k (by omega) (by omega) e; omega)
    exact dg_lt hz (hd k (by omega)) (hm k (by omega)) (dig_lt k (fun a ha => hd a (by omega)) (fun a b ha hb => hp a b (by omega) (by omega)) (fun a ha => hm a (by omega)))
/-- the digit of an assigned member: none 0, part 0 is 8, part 7 is 1 -/
def dgt (x : Option Nat) : Nat := match x with
  | none => 0
  | some p => 8 - p
/-- shares as the class makes them -/
def enc (w : Nat → Nat → Option Nat) (pos : Nat → Nat) : Nat → Nat → Option Nat := fun a p => (w a p).map (fun v => v * 43046721 + (8 - p) * 9 ^ pos a)
theorem wt_enc (w : Nat → Nat → Option Nat) (pos : Nat → Nat) (S : Nat → Bool) (f : Nat → Option Nat) (k : Nat) (h : okF w S k f) : wt (enc w pos) f k = wt w f k * 43046721 + dig (fun a => dgt (f a)) pos k := by
  induction k with
  | zero => simp only [wt, dig, Nat.zero_mul, Nat.add_zero]
  | succ k ih =>
    have ih := ih ⟨fun a ha => h.1 a (by omega), fun a b ha hb => h.2 a b (by omega) (by omega)⟩
    simp only [wt, dig]
    rw [ih]
    cases hf : f k with
    | none => simp only [wt1, dgt]; omega
    | some p =>
      obtain ⟨-, v, hv⟩ := h.1 k (by omega) p hf
      simp only [wt1, enc, hv, dgt, Option.map_some, Option.getD_some]
      rw [Nat.add_mul]
      omega
theorem enc_ok {w : Nat → Nat → Option Nat} {pos : Nat → Nat} {S : Nat → Bool} {k : Nat} {f : Nat → Option Nat} : okF (enc w pos) S k f ↔ okF w S k f := by
  constructor
  · intro h
    refine ⟨fun a ha p hp => ?_, h.2⟩
    obtain ⟨h1, v, h2⟩ := h.1 a ha p hp
    refine ⟨h1, ?_⟩
    cases hw : w a p with
    | none => simp [enc, hw] at h2
    | some u => exact ⟨u, rfl⟩
  · intro h
    refine ⟨fun a ha p hp => ?_, h.2⟩
    obtain ⟨h1, v, h2⟩ := h.1 a ha p hp
    exact ⟨h1, v * 43046721 + (8 - p) * 9 ^ pos a, by simp only [enc, h2, Option.map_some]⟩
end
section
/-! what the class's matching does to its rows of numbers, step by step, in the machine's own numbers -/
abbrev mxL (x y : Int64) : Int64 := if y < x then x else y
def rowMost (be os : Nat → Int64) (bt : Nat → Nat) (set : Nat) : Nat → Int64
  | 0 => be set
  | i + 1 => if set &&& bt i = 0 then rowMost be os bt set i else mxL (rowMost be os bt set i) (be (set ^^^ bt i) + os i)
/-- the sets above k have the new row already -/
def addRowF (be os : Nat → Int64) (bt : Nat → Nat) (c S k : Nat) : Nat → Int64 := fun j => if k < j ∧ j < S then rowMost be os bt j c else be j
def coC (sh : Nat → Int64) (f st : Nat) : Nat → Nat
  | 0 => 0
  | p + 1 => if sh (f + p * st) = -1 then coC sh f st p else coC sh f st p + 1
def coB (sh : Nat → Int64) (f st : Nat) (ob : Nat → Int32) : Nat → Nat → Int32
  | 0 => ob
  | p + 1 => if sh (f + p * st) = -1 then coB sh f st ob p else upd (coB sh f st ob p) (coC sh f st p) (nI (2 ^ p))
def coS (sh : Nat → Int64) (f st : Nat) (os : Nat → Int64) : Nat → Nat → Int64
  | 0 => os
  | p + 1 => if sh (f + p * st) = -1 then coS sh f st os p else vp_updL (coS sh f st os p) (coC sh f st p) (sh (f + p * st))
def coT (sh : Nat → Int64) (f st : Nat) : Nat → Nat → Nat
  | 0 => fun _ => 1
  | p + 1 => if sh (f + p * st) = -1 then coT sh f st p else fun i => if i = coC sh f st p then 2 ^ p else coT sh f st p i
theorem coC_le (sh : Nat → Int64) (f st : Nat) : ∀ p, coC sh f st p ≤ p
  | 0 => Nat.le_refl 0
  | p + 1 => by
    have := coC_le sh f st p
    show (if sh (f + p * st) = -1 then coC sh f st p else coC sh f st p + 1) ≤ p + 1
    split <;> omega
theorem coB_T (sh : Nat → Int64) (f st : Nat) (ob : Nat → Int32) : ∀ p i, i < coC sh f st p → coB sh f st ob p i = nI (coT sh f st p i) ∧ ∃ q, q < p ∧ coT sh f st p i = 2 ^ q
  | 0, i, h => absurd h (Nat.not_lt_zero _)
  | p + 1, i, h => by
    have ih := coB_T sh f st ob p i
    simp only [coC, coB, coT] at h ⊢
    by_cases e : sh (f + p * st) = -1
    · rw [if_pos e] at h ⊢
      rw [if_pos e]
      obtain ⟨h1, q, h2, h3⟩ := ih h
      exact ⟨h1, q, by omega, h3⟩
    · rw [if_neg e] at h ⊢
      rw [if_neg e]
      by_cases ei : i = coC sh f st p
      · subst ei
        rw [if_pos rfl]
        exact ⟨pk_us, p, by omega, rfl⟩
      · rw [if_neg ei, pk_un ei]
        obtain ⟨h1, q, h2, h3⟩ := ih (by omega)
        exact ⟨h1, q, by omega, h3⟩
/-- the sets below i hold 0 -/
def zeroF (be : Nat → Int64) (i : Nat) : Nat → Int64 := fun j => if j < i then lN 0 else be j
theorem zeroF_0 (be : Nat → Int64) : zeroF be 0 = be := by funext j; simp [zeroF]
theorem zeroF_s (be : Nat → Int64) (i : Nat) : vp_updL (zeroF be i) i (lN 0) = zeroF be (i + 1) := by
  funext j
  simp only [vp_updL, zeroF]
  by_cases h : j = i
  · subst h; simp
  · rw [if_neg h]
    by_cases h2 : j < i
    · rw [if_pos h2, if_pos (by omega)]
    · rw [if_neg h2, if_neg (by omega)]
theorem addRowF_s (be os : Nat → Int64) (bt : Nat → Nat) (c S k : Nat) (hk : 0 < k) (hS : k < S) : vp_updL (addRowF be os bt c S k) k (rowMost be os bt k c) = addRowF be os bt c S (k - 1) := by
  funext j
  simp only [vp_updL, addRowF]
  by_cases h : j = k
  · subst h; rw [if_pos rfl, if_pos (by omega)]
  · rw [if_neg h]
    by_cases h2 : k < j ∧ j < S
    · rw [if_pos h2, if_pos (by omega)]
    · rw [if_neg h2, if_neg (by omega)]
theorem addRowF_S (be os : Nat → Int64) (bt : Nat → Nat) (c S : Nat) : addRowF be os bt c S (S - 1) = be := by
  funext j
  simp only [addRowF]
  rw [if_neg (by omega)]
theorem addRowF_0 (be os : Nat → Int64) (bt : Nat → Nat) (S k : Nat) : addRowF be os bt 0 S k = be := by
  funext j
  simp only [addRowF, rowMost]
  split <;> rfl
theorem addRowF_le (be os : Nat → Int64) (bt : Nat → Nat) (c S k j : Nat) (h : j ≤ k) : addRowF be os bt c S k j = be j := by
  simp only [addRowF]
  rw [if_neg (by omega)]
/-- one ask's row of worths becomes shares: its first i places -/
def shr1 (pl : Int64) (i : Nat) (x : Int64) : Int64 := if x = -1 then -1 else x * lN 43046721 + lN (8 - i) * pl
def turnRow (a : Nat) (pl : Int64) (sh : Nat → Int64) (i : Nat) : Nat → Int64 := fun j => if a * 8 ≤ j ∧ j < a * 8 + i then shr1 pl (j - a * 8) (sh j) else sh j
def turnF (ar : Nat → Nat) (pn : Nat) : Nat → (Nat → Int64) → Int64 → Nat → Int64
  | 0, sh, _ => sh
  | k + 1, sh, pl => turnF ar pn k (turnRow (ar k) pl sh pn) (pl * lN 9)
theorem turnRow_0 (a : Nat) (pl : Int64) (sh : Nat → Int64) : turnRow a pl sh 0 = sh := by
  funext j
  simp only [turnRow]
  rw [if_neg (by omega)]
theorem turnRow_s (a : Nat) (pl : Int64) (sh : Nat → Int64) (i : Nat) : vp_updL (turnRow a pl sh i) (a * 8 + i) (shr1 pl i (sh (a * 8 + i))) = turnRow a pl sh (i + 1) := by
  funext j
  simp only [vp_updL, turnRow]
  by_cases h : j = a * 8 + i
  · subst h
    rw [if_pos rfl, if_pos (by omega), Nat.add_sub_cancel_left]
  · rw [if_neg h]
    by_cases h2 : a * 8 ≤ j ∧ j < a * 8 + i
    · rw [if_pos h2, if_pos (by omega)]
    · rw [if_neg h2, if_neg (by omega)]
theorem turnRow_at (a : Nat) (pl : Int64) (sh : Nat → Int64) (i : Nat) : turnRow a pl sh i (a * 8 + i) = sh (a * 8 + i) := by
  simp only [turnRow]
  rw [if_neg (by omega)]
theorem updL_same (f : Nat → Int64) (k : Nat) : vp_updL f k (f k) = f := by
  funext j
  simp only [vp_updL]
  split
  · rename_i h; rw [h]
  · rfl
theorem turnRow_t {a : Nat} {pl : Int64} {sh : Nat → Int64} {i : Nat} (h : sh (a * 8 + i) = -1) : turnRow a pl sh i = turnRow a pl sh (i + 1) := by
  rw [← turnRow_s, show shr1 pl i (sh (a * 8 + i)) = turnRow a pl sh i (a * 8 + i) from by rw [turnRow_at, h]; exact if_pos rfl, updL_same]
theorem turnRow_f {a : Nat} {pl : Int64} {sh : Nat → Int64} {i : Nat} (h : ¬ sh (a * 8 + i) = -1) : vp_updL (turnRow a pl sh i) (a * 8 + i) (sh (a * 8 + i) * lN 43046721 + lN (8 - i) * pl) = turnRow a pl sh (i + 1) := by
  rw [← turnRow_s, show shr1 pl i (sh (a * 8 + i)) = _ from if_neg h]
/-- the parts that the asks get, read off the digits -/
def gvF (ar : Nat → Nat) : Nat → Nat → (Nat → Int32) → Nat → Int32
  | 0, _, gi => gi
  | k + 1, d, gi => gvF ar k (d / 9) (upd gi (ar k) (if d % 9 = 0 then -1 else nI (8 - d % 9)))
def gvN : Nat → Nat → Nat → Nat
  | 0, _, n => n
  | k + 1, d, n => gvN k (d / 9) (if d % 9 = 0 then n + 0 else n + 1)
def gnF (be pg : Nat → Int64) (tot : Int64) (S i : Nat) : Nat → Int64 := fun j => if j < i then tot - be ((S - 1) ^^^ 2 ^ j) / lN 43046721 else pg j
theorem gnF_0 (be pg : Nat → Int64) (tot : Int64) (S : Nat) : gnF be pg tot S 0 = pg := by
  funext j
  simp [gnF]
theorem gnF_s (be pg : Nat → Int64) (tot : Int64) (S i : Nat) : vp_updL (gnF be pg tot S i) i (tot - be ((S - 1) ^^^ 2 ^ i) / lN 43046721) = gnF be pg tot S (i + 1) := by
  funext j
  simp only [vp_updL, gnF]
  by_cases h : j = i
  · subst h
    rw [if_pos rfl, if_pos (by omega)]
  · rw [if_neg h]
    by_cases h2 : j < i
    · rw [if_pos h2, if_pos (by omega)]
    · rw [if_neg h2, if_neg (by omega)]
/-- all rows of shares weighed -/
def wsOb (sh : Nat → Int64) (rs st M : Nat) (ob : Nat → Int32) : Nat → Nat → Int32
  | 0 => ob
  | r + 1 => coB sh (r * rs) st (wsOb sh rs st M ob r) M
def wsOs (sh : Nat → Int64) (rs st M : Nat) (os : Nat → Int64) : Nat → Nat → Int64
  | 0 => os
  | r + 1 => coS sh (r * rs) st (wsOs sh rs st M os r) M
def wsOc (sh : Nat → Int64) (rs st M oc : Nat) : Nat → Nat
  | 0 => oc
  | r + 1 => coC sh (r * rs) st M
def wsB (sh : Nat → Int64) (rs st M S : Nat) (be os : Nat → Int64) : Nat → Nat → Int64
  | 0 => zeroF be S
  | r + 1 => addRowF (wsB sh rs st M S be os r) (wsOs sh rs st M os (r + 1)) (coT sh (r * rs) st M) (coC sh (r * rs) st M) S 0
theorem wsB_skip {sh : Nat → Int64} {rs st M S : Nat} {be os : Nat → Int64} {r : Nat} (h : coC sh (r * rs) st M = 0) : wsB sh rs st M S be os r = wsB sh rs st M S be os (r + 1) := by
  show _ = addRowF _ _ _ _ _ _
  rw [h, addRowF_0]
/-- a number that is a place of n -/
abbrev inR (x : Int32) (n : Nat) : Prop := 0 ≤ x.toInt ∧ x.toInt < n
theorem in_of {x : Int32} {n : Nat} (hn : n < 2 ^ 31) (h0 : ¬ x < 0) (h1 : ¬ nI n ≤ x) : ∃ j : Nat, j < n ∧ x = nI j := by
  rcases pk_ix x hn with h | h | h
  · exact absurd h h0
  · exact absurd h h1
  · exact h
theorem inR_nI {j n : Nat} (hj : j < 2 ^ 31) : inR (nI j) n ↔ j < n := by
  unfold inR
  rw [nI_toInt hj]
  omega
theorem inR_lt {x : Int32} {n : Nat} (h : x < 0) : ¬ inR x n := fun q => by
  have h1 := Int32.lt_iff_toInt_lt.mp h
  have h2 : (0 : Int32).toInt = 0 := by decide
  rw [h2] at h1
  unfold inR at q
  omega
theorem inR_ge {x : Int32} {n : Nat} (hn : n < 2 ^ 31) (h : nI n ≤ x) : ¬ inR x n := fun q => by
  have h1 := Int32.le_iff_toInt_le.mp h
  rw [nI_toInt hn] at h1
  unfold inR at q
  omega
/-- f at x if x is a place of n, else d -/
def atR (f : Nat → Int32) (d x : Int32) (n : Nat) : Int32 := if 0 ≤ x.toInt ∧ x.toInt < n then f x.toNatClampNeg else d
theorem atR_no {f : Nat → Int32} {d x : Int32} {n : Nat} (h : ¬ inR x n) : atR f d x n = d := if_neg h
theorem atR_nI {f : Nat → Int32} {d : Int32} {j n : Nat} (h : j < n) (hn : n < 2 ^ 31) : atR f d (nI j) n = f j := by
  have h1 : inR (nI j) n := (inR_nI (by omega)).mpr h
  have h2 : atR f d (nI j) n = f (nI j).toNatClampNeg := if_pos h1
  rw [h2, nI_clamp (by omega)]
def atL (f : Nat → Int64) (d : Int64) (x : Int32) (n : Nat) : Int64 := if 0 ≤ x.toInt ∧ x.toInt < n then f x.toNatClampNeg else d
theorem atL_no {f : Nat → Int64} {d : Int64} {x : Int32} {n : Nat} (h : ¬ inR x n) : atL f d x n = d := if_neg h
theorem atL_nI {f : Nat → Int64} {d : Int64} {j n : Nat} (h : j < n) (hn : n < 2 ^ 31) : atL f d (nI j) n = f j := by
  have h1 : inR (nI j) n := (inR_nI (by omega)).mpr h
  have h2 : atL f d (nI j) n = f (nI j).toNatClampNeg := if_pos h1
  rw [h2, nI_clamp (by omega)]
theorem rk_neg {k : Nat} (hk : k < 2 ^ 30) : nI k - nI 1 < 0 ↔ k = 0 := by
  constructor
  · intro h
    rcases Nat.eq_zero_or_pos k with q | q
    · exact q
    · rw [pk_sub q] at h
      exact absurd h (nI_pos (by omega))
  · intro h
    subst h
    decide
end
section
/-! pure: the machine's rows of numbers are the greatest weights -/
def encI (x : Option Nat) : Int64 := match x with
  | none => -1
  | some v => lN v
theorem lN_ne {v : Nat} (h : v < 2 ^ 63) : ¬ lN v = -1 := fun e => by
  have h1 := congrArg Int64.toInt e
  rw [pk_lT h] at h1
  have h2 : (-1 : Int64).toInt = -1 := by decide
  rw [h2] at h1
  omega
theorem encI_n {x : Option Nat} (hb : ∀ v, x = some v → v < 2 ^ 63) : encI x = -1 ↔ x = none := by
  cases x with
  | none => exact ⟨fun _ => rfl, fun _ => rfl⟩
  | some v => exact ⟨fun h => absurd h (lN_ne (hb v rfl)), fun h => by cases h⟩
theorem mxL_N {a b : Nat} (ha : a < 2 ^ 63) (hb : b < 2 ^ 63) : mxL (lN a) (lN b) = lN (max a b) := by
  unfold mxL
  by_cases h : b < a
  · rw [if_pos ((pk_lLT hb ha).mpr h), Nat.max_eq_left (Nat.le_of_lt h)]
  · rw [if_neg (fun q => h ((pk_lLT hb ha).mp q)), Nat.max_eq_right (by omega)]
def rowMN (nb ov bt : Nat → Nat) (set : Nat) : Nat → Nat
  | 0 => nb set
  | i + 1 => if set &&& bt i = 0 then rowMN nb ov bt set i else max (rowMN nb ov bt set i) (nb (set ^^^ bt i) + ov i)
theorem rowMN_le {nb ov bt : Nat → Nat} {set B1 B2 S : Nat} (h0 : set < S) (h1 : ∀ j, j < S → nb j ≤ B1) : ∀ c, (∀ i, i < c → ov i ≤ B2) → (∀ i, i < c → set ^^^ bt i < S) → rowMN nb ov bt set c ≤ B1 + B2
  | 0, _, _ => Nat.le_trans (h1 set h0) (Nat.le_add_right _ _)
  | c + 1, h2, h3 => by
    have ih := rowMN_le h0 h1 c (fun i hi => h2 i (by omega)) (fun i hi => h3 i (by omega))
    show (if set &&& bt c = 0 then rowMN nb ov bt set c else max (rowMN nb ov bt set c) (nb (set ^^^ bt c) + ov c)) ≤ B1 + B2
    have a1 := h1 _ (h3 c (by omega))
    have a2 := h2 c (by omega)
    split
    · exact ih
    · exact Nat.max_le.mpr ⟨ih, by omega⟩
theorem rowMost_N {be os : Nat → Int64} {nb ov bt : Nat → Nat} {set B1 B2 S : Nat} (h0 : set < S) (h1 : ∀ j, j < S → nb j ≤ B1) (hb : ∀ j, j < S → be j = lN (nb j)) (hB : B1 + B2 < 2 ^ 63) : ∀ c, (∀ i, i < c → ov i ≤ B2) → (∀ i, i < c → set ^^^ bt i < S) → (∀ i, i < c → os i = lN (ov i)) → rowMost be os bt set c = lN (rowMN nb ov bt set c)
  | 0, _, _, _ => hb set h0
  | c + 1, h2, h3, h4 => by
    have ih := rowMost_N h0 h1 hb hB c (fun i hi => h2 i (by omega)) (fun i hi => h3 i (by omega)) (fun i hi => h4 i (by omega))
    have le := rowMN_le (B2 := B2) (ov := ov) h0 h1 c (fun i hi => h2 i (by omega)) (fun i hi => h3 i (by omega))
    have a1 := h1 _ (h3 c (by omega))
    have a2 := h2 c (by omega)
    show (if set &&& bt c = 0 then rowMost be os bt set c else mxL (rowMost be os bt set c) (be (set ^^^ bt c) + os c)) = lN (if set &&& bt c = 0 then rowMN nb ov bt set c else max (rowMN nb ov bt set c) (nb (set ^^^ bt c) + ov c))
    by_cases e : set &&& bt c = 0
    · rw [if_pos e, if_pos e, ih]
    · rw [if_neg e, if_neg e, ih, hb _ (h3 c (by omega)), h4 c (by omega), lN_add, mxL_N (by omega) (by omega)]
def cntR (r : Nat → Option Nat) : Nat → Nat
  | 0 => 0
  | p + 1 => match r p with | none => cntR r p | some _ => cntR r p + 1
def bitR (r : Nat → Option Nat) : Nat → Nat → Nat
  | 0 => fun _ => 1
  | p + 1 => match r p with | none => bitR r p | some _ => fun i => if i = cntR r p then 2 ^ p else bitR r p i
def valR (r : Nat → Option Nat) : Nat → Nat → Nat
  | 0 => fun _ => 0
  | p + 1 => match r p with | none => valR r p | some v => fun i => if i = cntR r p then v else valR r p i
theorem rowMN_congr {nb ov ov' bt bt' : Nat → Nat} {set : Nat} : ∀ c, (∀ i, i < c → ov i = ov' i ∧ bt i = bt' i) → rowMN nb ov bt set c = rowMN nb ov' bt' set c
  | 0, _ => rfl
  | c + 1, h => by
    show (if set &&& bt c = 0 then rowMN nb ov bt set c else max (rowMN nb ov bt set c) (nb (set ^^^ bt c) + ov c)) = (if set &&& bt' c = 0 then rowMN nb ov' bt' set c else max (rowMN nb ov' bt' set c) (nb (set ^^^ bt' c) + ov' c))
    rw [rowMN_congr c (fun i hi => h i (by omega)), (h c (by omega)).1, (h c (by omega)).2]
theorem and_pow (S p : Nat) : S &&& 2 ^ p = 0 ↔ ¬ S.testBit p = true := by
  constructor
  · intro h hb
    have h1 : (S &&& 2 ^ p).testBit p = true := by rw [Nat.testBit_and, hb, Nat.testBit_two_pow, decide_eq_true rfl]; rfl
    rw [h, Nat.zero_testBit] at h1
    cases h1
  · intro h
    apply Nat.eq_of_testBit_eq
    intro i
    rw [Nat.testBit_and, Nat.zero_testBit, Nat.testBit_two_pow]
    by_cases e : p = i
    · subst e
      simp [h]
    · simp [e]
theorem rowMN_opt (nb : Nat → Nat) (r : Nat → Option Nat) (set : Nat) : ∀ p, rowMN nb (valR r p) (bitR r p) set (cntR r p) = rowOpt nb r set p
  | 0 => rfl
  | p + 1 => by
    have ih := rowMN_opt nb r set p
    simp only [valR, bitR, cntR, rowOpt]
    cases hr : r p with
    | none => simp only [ih, ite_self]
    | some v =>
      have hc : rowMN nb (fun i => if i = cntR r p then v else valR r p i) (fun i => if i = cntR r p then 2 ^ p else bitR r p i) set (cntR r p) = rowOpt nb r set p := by
        rw [← ih]
        exact rowMN_congr _ (fun i hi => ⟨if_neg (by omega), if_neg (by omega)⟩)
      simp only [rowMN, if_true, hc]
      by_cases e : set.testBit p = true
      · rw [if_neg (fun q => (and_pow set p).mp q e), if_pos e]
      · rw [if_pos ((and_pow set p).mpr e), if_neg e]
theorem co_N (sh : Nat → Int64) (f st : Nat) (r : Nat → Option Nat) (hbd : ∀ p v, r p = some v → v < 2 ^ 63) (os : Nat → Int64) : ∀ M, (∀ p, p < M → sh (f + p * st) = encI (r p)) → coC sh f st M = cntR r M ∧ coT sh f st M = bitR r M ∧ ∀ i, i < cntR r M → coS sh f st os M i = lN (valR r M i)
  | 0, _ => ⟨rfl, rfl, fun i hi => absurd hi (Nat.not_lt_zero _)⟩
  | M + 1, h => by
    obtain ⟨h1, h2, h3⟩ := co_N sh f st r hbd os M (fun p hp => h p (by omega))
    have hm := h M (by omega)
    simp only [coC, coT, coS, cntR, bitR, valR]
    cases hr : r M with
    | none =>
      have e : sh (f + M * st) = -1 := by rw [hm, hr]; rfl
      simp only [e, if_true]
      exact ⟨h1, h2, h3⟩
    | some v =>
      have e1 : sh (f + M * st) = lN v := by rw [hm, hr]; rfl
      have e : ¬ sh (f + M * st) = -1 := by rw [e1]; exact lN_ne (hbd M v hr)
      simp only [if_neg e, h1, h2]
      refine ⟨trivial, trivial, fun i hi => ?_⟩
      by_cases ei : i = cntR r M
      · rw [if_pos ei, ei, pk_uLs, e1]
      · rw [if_neg ei, pk_uLn ei]
        exact h3 i (by omega)
end
section
/-! pure: worth and digits of the greatest number; rows and members changed -/
theorem dgt_lt (x : Option Nat) : dgt x < 9 := by
  cases x with
  | none => exact by decide
  | some p => show 8 - p < 9; omega
theorem dgt_inj {x y : Option Nat} (hx : ∀ p, x = some p → p < 8) (hy : ∀ p, y = some p → p < 8) (h : dgt x = dgt y) : x = y := by
  cases x with
  | none =>
    cases y with
    | none => rfl
    | some q => have := hy q rfl; simp only [dgt] at h; omega
  | some p =>
    have h1 := hx p rfl
    cases y with
    | none => simp only [dgt] at h; omega
    | some q => have := hy q rfl; simp only [dgt] at h; congr 1; omega
section PS
variable {w : Nat → Nat → Option Nat} {pos : Nat → Nat} {n M : Nat}
theorem enc_div {S : Nat → Bool} {f : Nat → Option Nat} (hp : ∀ a b, a < n → b < n → pos a = pos b → a = b) (h8 : ∀ a, a < n → pos a < 8) (h : okF w S n f) : wt (enc w pos) f n / 43046721 = wt w f n ∧ wt (enc w pos) f n % 43046721 = dig (fun a => dgt (f a)) pos n := by
  have h1 := wt_enc w pos S f n h
  have h2 : dig (fun a => dgt (f a)) pos n < 9 ^ 8 := dig_lt n (fun a _ => dgt_lt _) hp h8
  have h3 : (9 : Nat) ^ 8 = 43046721 := by decide
  rw [h3] at h2
  rw [h1]
  omega
theorem opt_enc (hp : ∀ a b, a < n → b < n → pos a = pos b → a = b) (h8 : ∀ a, a < n → pos a < 8) (S : Nat) : opt (enc w pos) M n S / 43046721 = opt w M n S := by
  obtain ⟨f, h1, h2, -⟩ := opt_ex (enc w pos) M n S
  obtain ⟨g, g1, g2, -⟩ := opt_ex w M n S
  have hf := enc_div hp h8 (enc_ok.mp h1)
  have hg := enc_div hp h8 g1
  have u1 := opt_ub w M n S f (enc_ok.mp h1)
  have u2 := opt_ub (enc w pos) M n S g (enc_ok.mpr g1)
  rw [h2] at hf
  omega
/-- the assignment whose number is greatest; it is the only one -/
theorem opt_uniq (hp : ∀ a b, a < n → b < n → pos a = pos b → a = b) (h8 : ∀ a, a < n → pos a < 8) (hM : M ≤ 8) {S : Nat} {f g : Nat → Option Nat} (hf : okF w (setB M S) n f) (hg : okF w (setB M S) n g) (e : wt (enc w pos) f n = wt (enc w pos) g n) : ∀ a, a < n → f a = g a := by
  intro a ha
  have h1 := (enc_div hp h8 hf).2
  have h2 := (enc_div hp h8 hg).2
  rw [e] at h1
  have h3 : dig (fun a => dgt (f a)) pos n = dig (fun a => dgt (g a)) pos n := h1.symm.trans h2
  have d1 := (dig_at (d := fun a => dgt (f a)) (pos := pos) n (fun a _ => dgt_lt _) hp).2 a ha
  have d2 := (dig_at (d := fun a => dgt (g a)) (pos := pos) n (fun a _ => dgt_lt _) hp).2 a ha
  rw [h3] at d1
  have hlt : ∀ {q : Nat → Option Nat}, okF w (setB M S) n q → ∀ p, q a = some p → p < 8 := fun hq p hqp => by
    have := (hq.1 a ha p hqp).1
    simp only [setB, Bool.and_eq_true, decide_eq_true_eq] at this
    omega
  exact dgt_inj (hlt hf) (hlt hg) (d1.symm.trans d2)
end PS
/-- the transposed shares -/
def trS (sh : Nat → Nat → Option Nat) : Nat → Nat → Option Nat := fun p a => sh a p
theorem wt_upd (sh : Nat → Nat → Option Nat) {f : Nat → Option Nat} {a p v : Nat} (hf : f a = none) (hv : sh a p = some v) : ∀ n, (a < n → wt sh (updO f a (some p)) n = wt sh f n + v) ∧ (n ≤ a → wt sh (updO f a (some p)) n = wt sh f n)
  | 0 => ⟨fun h => absurd h (Nat.not_lt_zero _), fun _ => rfl⟩
  | n + 1 => by
    obtain ⟨h1, h2⟩ := wt_upd sh hf hv n
    refine ⟨fun h => ?_, fun h => ?_⟩
    · show wt sh (updO f a (some p)) n + wt1 (sh n) (updO f a (some p) n) = wt sh f n + wt1 (sh n) (f n) + v
      by_cases e : n = a
      · subst e
        rw [h2 (Nat.le_refl _), hf]
        simp [updO, wt1, hv]
      · rw [h1 (by omega)]
        have : updO f a (some p) n = f n := if_neg e
        rw [this]
        omega
    · show wt sh (updO f a (some p)) n + wt1 (sh n) (updO f a (some p) n) = wt sh f n + wt1 (sh n) (f n)
      have : updO f a (some p) n = f n := if_neg (by omega)
      rw [h2 (by omega), this]
theorem tr_ex (sh : Nat → Nat → Option Nat) (T : Nat → Bool) (n : Nat) (hT : ∀ a, T a = true → a < n) (g : Nat → Option Nat) : ∀ m, okF (trS sh) T m g → ∃ f, okF sh (fun p => decide (p < m)) n f ∧ (∀ a p, f a = some p → T a = true ∧ p < m ∧ g p = some a) ∧ wt sh f n = wt (trS sh) g m
  | 0, _ => by
    refine ⟨fun _ => none, ⟨fun a ha p hp => (nomatch hp), fun a b ha hb p hp => (nomatch hp)⟩, fun a p hp => (nomatch hp), ?_⟩
    have h0 : ∀ k, wt sh (fun _ => none) k = 0 := fun k => by
      induction k with
      | zero => rfl
      | succ k ih => show wt sh (fun _ => none) k + 0 = 0; rw [ih]
    exact h0 n
  | m + 1, h => by
    obtain ⟨f, h1, h2, h3⟩ := tr_ex sh T n hT g m ⟨fun a ha => h.1 a (by omega), fun a b ha hb => h.2 a b (by omega) (by omega)⟩
    have mono : okF sh (fun p => decide (p < m + 1)) n f := ⟨fun a ha p hp => by
      obtain ⟨e1, e2⟩ := h1.1 a ha p hp
      simp only [decide_eq_true_eq] at e1 ⊢
      exact ⟨by omega, e2⟩, h1.2⟩
    cases hg : g m with
    | none =>
      refine ⟨f, mono, fun a p hp => ?_, ?_⟩
      · obtain ⟨a1, a2, a3⟩ := h2 a p hp
        exact ⟨a1, by omega, a3⟩
      · show wt sh f n = wt (trS sh) g m + wt1 (trS sh m) (g m)
        rw [hg, h3]
        rfl
    | some a0 =>
      obtain ⟨hTa, v, hv⟩ := h.1 m (by omega) a0 hg
      have ha0 := hT a0 hTa
      have hv' : sh a0 m = some v := hv
      have hfn : f a0 = none := by
        cases hfa : f a0 with
        | none => rfl
        | some p =>
          obtain ⟨-, b2, b3⟩ := h2 a0 p hfa
          have := h.2 p m (by omega) (by omega) a0 b3 hg
          omega
      have hother : ∀ b, b ≠ a0 → updO f a0 (some m) b = f b := fun b hb => if_neg hb
      have hself : updO f a0 (some m) a0 = some m := if_pos rfl
      refine ⟨updO f a0 (some m), ⟨fun a ha p hp => ?_, fun a b ha hb p hpa hpb => ?_⟩, fun a p hp => ?_, ?_⟩
      · by_cases e : a = a0
        · subst e
          rw [hself] at hp
          cases hp
          exact ⟨by simp, v, hv'⟩
        · rw [hother a e] at hp
          exact mono.1 a ha p hp
      · by_cases ea : a = a0 <;> by_cases eb : b = a0
        · omega
        · rw [ea, hself] at hpa
          cases hpa
          rw [hother b eb] at hpb
          have := (h2 b m hpb).2.1
          omega
        · rw [eb, hself] at hpb
          cases hpb
          rw [hother a ea] at hpa
          have := (h2 a m hpa).2.1
          omega
        · rw [hother a ea] at hpa
          rw [hother b eb] at hpb
          exact h1.2 a b ha hb p hpa hpb
      · by_cases e : a = a0
        · subst e
          rw [hself] at hp
          cases hp
          exact ⟨hTa, by omega, hg⟩
        · rw [hother a e] at hp
          obtain ⟨a1, a2, a3⟩ := h2 a p hp
          exact ⟨a1, by omega, a3⟩
      · rw [(wt_upd sh hfn hv' n).1 ha0, h3]
        show _ = wt (trS sh) g m + wt1 (trS sh m) (g m)
        rw [hg]
        simp [wt1, hv]
end
section
/-! pure: bits of sets -/
theorem xor_lt' : ∀ k, k < 256 → ∀ q, q < 8 → ¬ k &&& 2 ^ q = 0 → k ^^^ 2 ^ q < k := by decide +kernel
theorem xor_lt {k q : Nat} (hk : k < 256) (hq : q < 8) (h : ¬ k &&& 2 ^ q = 0) : k ^^^ 2 ^ q < k := xor_lt' k hk q hq h
theorem m1_i {k : Nat} (h : 0 < k) : nI k + Int32.ofInt (-1) = nI (k - 1) := by
  rw [show Int32.ofInt (-1) = (-1 : Int32) from by decide]
  exact sb_m1 h
theorem pow_in {M S : Nat} (hS : S = 2 ^ M) (hM : M ≤ 8) : 0 < S ∧ S ≤ 256 := by
  subst hS
  exact ⟨Nat.two_pow_pos M, Nat.le_trans (Nat.pow_le_pow_right (by decide) hM) (by decide)⟩
theorem xor_in {a b M S : Nat} (hS : S = 2 ^ M) (ha : a < S) (hb : b < S) : a ^^^ b < S := by
  subst hS
  exact Nat.xor_lt_two_pow ha hb
theorem shl1 : ∀ p, p < 31 → nI 1 <<< (nI p &&& 31) = nI (2 ^ p) := by decide +kernel
theorem rk_pos {k : Nat} (hk : k < 2 ^ 30) (h : ¬ nI k - nI 1 < 0) : ∃ j, k = j + 1 := by
  rcases Nat.eq_zero_or_pos k with q | q
  · exact absurd ((rk_neg hk).mpr q) h
  · exact ⟨k - 1, by omega⟩
end
section
/-! arrays whose contents are naturals -/
def updN (f : Nat → Nat) (k v : Nat) : Nat → Nat := fun j => if j = k then v else f j
theorem updN_s (f : Nat → Nat) (k v : Nat) : updN f k v k = v := if_pos rfl
theorem updN_n (f : Nat → Nat) {k j : Nat} (v : Nat) (h : j ≠ k) : updN f k v j = f j := if_neg h
theorem upd_nI (f : Nat → Nat) (k v : Nat) : upd (fun j => nI (f j)) k (nI v) = fun j => nI (updN f k v j) := by
  funext j
  simp only [upd, updN]
  split <;> rfl
theorem upd_lN (f : Nat → Nat) (k v : Nat) : vp_updL (fun j => lN (f j)) k (lN v) = fun j => lN (updN f k v j) := by
  funext j
  simp only [vp_updL, updN]
  split <;> rfl
section FN
variable {p : Program} {l : Launch} {e : Env} {R : Room} {s : State} {m : MethodId} {args : Array Value} {below : List Frame} {meth : Method} {c : Code} {H : Heap} {locs : List Loc} {cells slots : Nat} {Q : State → Prop}
variable {cc : ByteArray} {pc : Nat} {ls : Array Slot} {rest : List Value} {D : va_G} {cl : List vw_C} {A : Nat → Prop} {a : Nat} {tys : List (ClassId × FieldType)} {L : List va_W} {Y : va_W} {H0 : Heap}
theorem fa_ialdN (hx : p.tables.exec = Jvm.exec) (hb : c.code = cc) (hK : va_K D cl tys s) (hP : va_P D cl (fl L) H) (kw q0 t0 : Nat) (hL : L[kw]? = some Y) {cA : ClassId} {n k : Nat} {g : Nat → Nat} (ha : Y[q0]? = some (a, .inl (cA, n, .inl (fun j => nI (g j))))) (ht : tys[t0]? = some (cA, .int)) (hk : k < n) (hn : n < 2 ^ 31) (hdg : decode cc pc = .ok (.iaload, 1)) (kk : W p l e R s m args below meth c H locs cells slots Q (F0 m (pc + 1) ls (.int (nI (g k)) :: rest))) : W p l e R s m args below meth c H locs cells slots Q (F0 m pc ls (.int (nI k) :: .ref a :: rest)) := fa_iald hx hb hK hP kw q0 t0 hL ha ht hk hn hdg kk
theorem fa_laldN (hx : p.tables.exec = Jvm.exec) (hb : c.code = cc) (hK : va_K D cl tys s) (hP : va_P D cl (fl L) H) (kw q0 t0 : Nat) (hL : L[kw]? = some Y) {cA : ClassId} {n k : Nat} {g : Nat → Nat} (ha : Y[q0]? = some (a, .inl (cA, n, .inr (.inl (fun j => lN (g j)))))) (ht : tys[t0]? = some (cA, .long)) (hk : k < n) (hn : n < 2 ^ 31) (hdg : decode cc pc = .ok (.laload, 1)) (kk : W p l e R s m args below meth c H locs cells slots Q (F0 m (pc + 1) ls (.long (lN (g k)) :: rest))) : W p l e R s m args below meth c H locs cells slots Q (F0 m pc ls (.int (nI k) :: .ref a :: rest)) := fa_lald hx hb hK hP kw q0 t0 hL ha ht hk hn hdg kk
theorem fa_iastN (hx : p.tables.exec = Jvm.exec) (hb : c.code = cc) (hK : va_K D cl tys s) (hP : va_P D cl (fl L) H) (hD : va_D A (fl L)) (hS : va_S A H0 H locs) (kw q0 t0 : Nat) (hL : L[kw]? = some Y) {cA : ClassId} {n k v : Nat} {g : Nat → Nat} (ha : Y[q0]? = some (a, .inl (cA, n, .inl (fun j => nI (g j))))) (ht : tys[t0]? = some (cA, .int)) (hk : k < n) (hn : n < 2 ^ 31) (hdg : decode cc pc = .ok (.iastore, 1)) (kk : ∀ (H1 : Heap) (locs1 : List Loc), va_P D cl (fl (L.set kw (Y.set q0 (a, .inl (cA, n, .inl (fun j => nI (updN g k v j))))))) H1 → va_D A (fl (L.set kw (Y.set q0 (a, .inl (cA, n, .inl (fun j => nI (updN g k v j))))))) → va_S A H0 H1 locs1 → W p l e R s m args below meth c H1 locs1 cells slots Q (F0 m (pc + 1) ls rest)) : W p l e R s m args below meth c H locs cells slots Q (F0 m pc ls (.int (nI v) :: .int (nI k) :: .ref a :: rest)) := fa_iast hx hb hK hP hD hS kw q0 t0 hL ha ht hk hn hdg (by rw [upd_nI]; exact kk)
theorem fa_lastN (hx : p.tables.exec = Jvm.exec) (hb : c.code = cc) (hK : va_K D cl tys s) (hP : va_P D cl (fl L) H) (hD : va_D A (fl L)) (hS : va_S A H0 H locs) (kw q0 t0 : Nat) (hL : L[kw]? = some Y) {cA : ClassId} {n k v : Nat} {g : Nat → Nat} (ha : Y[q0]? = some (a, .inl (cA, n, .inr (.inl (fun j => lN (g j)))))) (ht : tys[t0]? = some (cA, .long)) (hk : k < n) (hn : n < 2 ^ 31) (hdg : decode cc pc = .ok (.lastore, 1)) (kk : ∀ (H1 : Heap) (locs1 : List Loc), va_P D cl (fl (L.set kw (Y.set q0 (a, .inl (cA, n, .inr (.inl (fun j => lN (updN g k v j)))))))) H1 → va_D A (fl (L.set kw (Y.set q0 (a, .inl (cA, n, .inr (.inl (fun j => lN (updN g k v j)))))))) → va_S A H0 H1 locs1 → W p l e R s m args below meth c H1 locs1 cells slots Q (F0 m (pc + 1) ls rest)) : W p l e R s m args below meth c H locs cells slots Q (F0 m pc ls (.long (lN v) :: .int (nI k) :: .ref a :: rest)) := fa_last hx hb hK hP hD hS kw q0 t0 hL ha ht hk hn hdg (by rw [upd_lN]; exact kk)
end FN
end
section
/-- the matching's cells -/
def wM (kC : Nat → ClassId) (ad : Nat → Nat) (sh : Nat → Int64) (be : Nat → Int64) (ob : Nat → Int32) (os : Nat → Int64) (oc : Nat) (ar : Nat → Int32) (gi : Nat → Int32) (pg : Nat → Int64) (ag : Nat → Int64) (pn : Nat) (an : Nat) (prn : Nat) (tot : Int64) : va_W := [(ad 0, .inr (3, [.ref (ad 1), .ref (ad 2), .ref (ad 3), .ref (ad 4), .int (nI oc), .ref (ad 5), .ref (ad 6), .ref (ad 7), .ref (ad 8), .int (nI pn), .int (nI an), .int (nI prn), .long tot])), (ad 1, .inl (kC 1, 64, .inr (.inl sh))), (ad 2, .inl (kC 1, 256, .inr (.inl be))), (ad 3, .inl (kC 0, 8, .inl ob)), (ad 4, .inl (kC 1, 8, .inr (.inl os))), (ad 5, .inl (kC 0, 8, .inl ar)), (ad 6, .inl (kC 0, 8, .inl gi)), (ad 7, .inl (kC 1, 8, .inr (.inl pg))), (ad 8, .inl (kC 1, 8, .inr (.inl ag)))]
abbrev b_M_addRow : ByteArray := prog_4_method_12_code
def y_M_addRow : MethodName := ⟨"PartShelves$Matching", "addRow", "(I)V"⟩
theorem d_M_addRow_0 : decode b_M_addRow 0 = .ok (.iload_n 1, 1) := by decide +kernel
theorem d_M_addRow_1 : decode b_M_addRow 1 = .ok (.iconst 1, 1) := by decide +kernel
theorem d_M_addRow_2 : decode b_M_addRow 2 = .ok (.isub, 1) := by decide +kernel
theorem d_M_addRow_3 : decode b_M_addRow 3 = .ok (.istore_n 2, 1) := by decide +kernel
theorem d_M_addRow_4 : decode b_M_addRow 4 = .ok (.iload_n 2, 1) := by decide +kernel
theorem d_M_addRow_5 : decode b_M_addRow 5 = .ok (.ifCond .le 79, 3) := by decide +kernel
theorem d_M_addRow_8 : decode b_M_addRow 8 = .ok (.aload_n 0, 1) := by decide +kernel
theorem d_M_addRow_9 : decode b_M_addRow 9 = .ok (.getfield 15, 3) := by decide +kernel
theorem d_M_addRow_12 : decode b_M_addRow 12 = .ok (.iload_n 2, 1) := by decide +kernel
theorem d_M_addRow_13 : decode b_M_addRow 13 = .ok (.laload, 1) := by decide +kernel
theorem d_M_addRow_14 : decode b_M_addRow 14 = .ok (.lstore_n 3, 1) := by decide +kernel
theorem d_M_addRow_15 : decode b_M_addRow 15 = .ok (.iconst 0, 1) := by decide +kernel
theorem d_M_addRow_16 : decode b_M_addRow 16 = .ok (.istore 5, 2) := by decide +kernel
theorem d_M_addRow_18 : decode b_M_addRow 18 = .ok (.iload 5, 2) := by decide +kernel
theorem d_M_addRow_20 : decode b_M_addRow 20 = .ok (.aload_n 0, 1) := by decide +kernel
theorem d_M_addRow_21 : decode b_M_addRow 21 = .ok (.getfield 25, 3) := by decide +kernel
theorem d_M_addRow_24 : decode b_M_addRow 24 = .ok (.if_icmp .ge 47, 3) := by decide +kernel
theorem d_M_addRow_27 : decode b_M_addRow 27 = .ok (.aload_n 0, 1) := by decide +kernel
theorem d_M_addRow_28 : decode b_M_addRow 28 = .ok (.getfield 18, 3) := by decide +kernel
theorem d_M_addRow_31 : decode b_M_addRow 31 = .ok (.iload 5, 2) := by decide +kernel
theorem d_M_addRow_33 : decode b_M_addRow 33 = .ok (.iaload, 1) := by decide +kernel
theorem d_M_addRow_34 : decode b_M_addRow 34 = .ok (.istore 6, 2) := by decide +kernel
theorem d_M_addRow_36 : decode b_M_addRow 36 = .ok (.iload_n 2, 1) := by decide +kernel
theorem d_M_addRow_37 : decode b_M_addRow 37 = .ok (.iload 6, 2) := by decide +kernel
theorem d_M_addRow_39 : decode b_M_addRow 39 = .ok (.iand, 1) := by decide +kernel
theorem d_M_addRow_40 : decode b_M_addRow 40 = .ok (.ifCond .eq 25, 3) := by decide +kernel
theorem d_M_addRow_43 : decode b_M_addRow 43 = .ok (.lload_n 3, 1) := by decide +kernel
theorem d_M_addRow_44 : decode b_M_addRow 44 = .ok (.aload_n 0, 1) := by decide +kernel
theorem d_M_addRow_45 : decode b_M_addRow 45 = .ok (.getfield 15, 3) := by decide +kernel
theorem d_M_addRow_48 : decode b_M_addRow 48 = .ok (.iload_n 2, 1) := by decide +kernel
theorem d_M_addRow_49 : decode b_M_addRow 49 = .ok (.iload 6, 2) := by decide +kernel
theorem d_M_addRow_51 : decode b_M_addRow 51 = .ok (.ixor, 1) := by decide +kernel
theorem d_M_addRow_52 : decode b_M_addRow 52 = .ok (.laload, 1) := by decide +kernel
theorem d_M_addRow_53 : decode b_M_addRow 53 = .ok (.aload_n 0, 1) := by decide +kernel
theorem d_M_addRow_54 : decode b_M_addRow 54 = .ok (.getfield 22, 3) := by decide +kernel
theorem d_M_addRow_57 : decode b_M_addRow 57 = .ok (.iload 5, 2) := by decide +kernel
theorem d_M_addRow_59 : decode b_M_addRow 59 = .ok (.laload, 1) := by decide +kernel
theorem d_M_addRow_60 : decode b_M_addRow 60 = .ok (.ladd, 1) := by decide +kernel
theorem d_M_addRow_61 : decode b_M_addRow 61 = .ok (.invokestatic 83, 3) := by decide +kernel
theorem d_M_addRow_64 : decode b_M_addRow 64 = .ok (.lstore_n 3, 1) := by decide +kernel
theorem d_M_addRow_65 : decode b_M_addRow 65 = .ok (.iinc 5 1, 3) := by decide +kernel
theorem d_M_addRow_68 : decode b_M_addRow 68 = .ok (.goto (-50), 3) := by decide +kernel
theorem d_M_addRow_71 : decode b_M_addRow 71 = .ok (.aload_n 0, 1) := by decide +kernel
theorem d_M_addRow_72 : decode b_M_addRow 72 = .ok (.getfield 15, 3) := by decide +kernel
theorem d_M_addRow_75 : decode b_M_addRow 75 = .ok (.iload_n 2, 1) := by decide +kernel
theorem d_M_addRow_76 : decode b_M_addRow 76 = .ok (.lload_n 3, 1) := by decide +kernel
theorem d_M_addRow_77 : decode b_M_addRow 77 = .ok (.lastore, 1) := by decide +kernel
theorem d_M_addRow_78 : decode b_M_addRow 78 = .ok (.iinc 2 (-1), 3) := by decide +kernel
theorem d_M_addRow_81 : decode b_M_addRow 81 = .ok (.goto (-77), 3) := by decide +kernel
theorem d_M_addRow_84 : decode b_M_addRow 84 = .ok (.return_, 1) := by decide +kernel
def w_M_addRow : List Cond := .code y_M_addRow b_M_addRow 7 none :: ([.fieldLink "PartShelves$Matching" 15 "PartShelves$Matching" "best" "[J", .fieldLink "PartShelves$Matching" 25 "PartShelves$Matching" "optionCount" "I", .fieldLink "PartShelves$Matching" 18 "PartShelves$Matching" "optionBits" "[I", .fieldLink "PartShelves$Matching" 22 "PartShelves$Matching" "optionShares" "[J", .methodLink "PartShelves$Matching" 83 ⟨"java/lang/Math", "max", "(JJ)J"⟩, .static ⟨"java/lang/Math", "max", "(JJ)J"⟩, .initialized "java/lang/Math", .code ⟨"java/lang/Math", "max", "(JJ)J"⟩ prog_14_method_66_code 4 (some .long)] ++ u_ws R_M F_M 13)
set_option maxHeartbeats 4000000 in
set_option maxRecDepth 100000 in
/-- addRow: the sets from the greatest down take one more row -/
theorem c_M_addRow (l : Launch) (D : va_G) (kC : Nat → ClassId) (ad : Nat → Nat) (sh : Nat → Int64) (be : Nat → Int64) (ob : Nat → Int32) (os : Nat → Int64) (oc : Nat) (ar : Nat → Int32) (gi : Nat → Int32) (pg : Nat → Int64) (ag : Nat → Int64) (pn : Nat) (an : Nat) (prn : Nat) (tot : Int64) (S : Nat) (M : Nat) (bt : Nat → Nat) (sz : Nat) (eS : S = 2 ^ M) (eM : M ≤ 8) (hc : oc ≤ 8) (hbt : ∀ i, i < oc → ob i = nI (bt i) ∧ ∃ q, q < M ∧ bt i = 2 ^ q) : Met l y_M_addRow w_M_addRow ({ frames := 1, cells := 0, slots := 0, locals := 15 } : Room) (gPre cls D (tyL kC) [.ref (ad 0), .int (nI S)] (fl [(wM kC ad sh be ob os oc ar gi pg ag pn an prn tot)]) sz) (gQv cls D (tyL kC) (fl [(wM kC ad sh be ob os oc ar gi pg ag pn an prn tot)]) sz (fl [(wM kC ad sh (addRowF be os bt oc S 0) ob os oc ar gi pg ag pn an prn tot)])) 0 0 (va_A (fl [(wM kC ad sh be ob os oc ar gi pg ag pn an prn tot)]) sz) := by
  refine Met.ofW (cc := b_M_addRow) (maxL := 7) (ret := none) (by decide) rfl ?_
  intro p e s m args below meth c s₁ B hml hv
  obtain ⟨rfl, hsz, hP, hK, hD0⟩ := hv
  have hx := B.exec
  have hb := B.bytes
  have hr := B.returns
  have hts := atoms_spec (ws := w_M_addRow) B.pre
  have hown : s.vm.findClass R_M = some m.cls := findClass_of_methodNamed B.named
  have hlocks := B.notSynchronized
  subst hsz
  obtain ⟨A, hAe⟩ : ∃ A : Nat → Prop, A = va_A (fl [(wM kC ad sh be ob os oc ar gi pg ag pn an prn tot)]) s.heap.size := ⟨_, rfl⟩
  have hD : va_D A (fl [(wM kC ad sh be ob os oc ar gi pg ag pn an prn tot)]) := by rw [hAe]; exact hD0.self
  have hA : ∀ q : Nat, s.heap.size ≤ q → A q := fun q h => by rw [hAe]; exact Or.inr h
  have hS : va_S A s.heap s.heap [] := va_S.rf
  have hl := lv_entry ([.ref (ad 0), .int (nI S)]) (n := 7) (Nat.le_of_ble_eq_true rfl)
  rw [lg_entry_eq]
  generalize (lg_sl ([.ref (ad 0), .int (nI S)]) ++ List.replicate (7 - (lg_sl ([.ref (ad 0), .int (nI S)])).length) Slot.unset).toArray = ls at hl ⊢
  have hl : lv_has ls 7 [(0, .ref (ad 0)), (1, .int (nI S))] := hl
  obtain ⟨hS0, hS1⟩ := pow_in eS eM
  refine lv_iload_n hx hb d_M_addRow_0 rfl (lv_at hl 1 rfl) ?_
  refine lv_iconst (v := nI 1) hx hb d_M_addRow_1 (by decide) ?_
  refine nv_isub hx hb d_M_addRow_2 (by omega) ?_
  refine lv_istore_n (lv' := [(2, .int (nI (S - 1))), (0, .ref (ad 0)), (1, .int (nI S))]) hx hb d_M_addRow_3 rfl hl (by decide) rfl (fun ls hl => ?_)
  have L4 : ∀ (n4 : Nat) (k : Nat), k < n4 → k < S → ∀ (H : Heap) (locs : List Loc), va_P D cls (fl [(wM kC ad sh (addRowF be os bt oc S k) ob os oc ar gi pg ag pn an prn tot)]) H → va_D A (fl [(wM kC ad sh (addRowF be os bt oc S k) ob os oc ar gi pg ag pn an prn tot)]) → va_S A s.heap H locs → ∀ (ls : Array Slot), lv_has ls 7 [(0, .ref (ad 0)), (1, .int (nI S)), (2, .int (nI k))] → W p l e (headSpec w_M_addRow ({ frames := 1, cells := 0, slots := 0, locals := 15 } : Room)).room s m ([.ref (ad 0), .int (nI S)] : List Value).toArray below meth c H locs 0 0 (MQ below (gQv cls D (tyL kC) (fl [(wM kC ad sh be ob os oc ar gi pg ag pn an prn tot)]) s.heap.size (fl [(wM kC ad sh (addRowF be os bt oc S 0) ob os oc ar gi pg ag pn an prn tot)])) ([.ref (ad 0), .int (nI S)] : List Value).toArray s 0 0 (va_A (fl [(wM kC ad sh be ob os oc ar gi pg ag pn an prn tot)]) s.heap.size)) (F0 m 4 ls []) := by
    intro n4
    induction n4 with
    | zero =>
      intro k hm
      exact absurd hm (Nat.not_lt_zero _)
    | succ n4 ih4 =>
      intro k hm hk H locs hP hD hS ls hl
      refine lv_iload_n hx hb d_M_addRow_4 rfl (lv_at hl 2 rfl) ?_
      refine nv_if_le (tgt := 84) hx hb d_M_addRow_5 (by decide) (by omega) (fun hk0 => ?_) (fun hk0 => ?_)
      · subst hk0
        exact W.vret hx hb hr (fun t ht hW => by subst hAe; exact ⟨⟨(), rfl, trivial, by rw [ht]; exact hP, va_K.moved hW.alike hK, hD⟩, hS.F ht⟩) (by subst hAe; exact hS.2.2) d_M_addRow_84
      · refine lv_aload_n hx hb d_M_addRow_8 rfl (lv_at hl 0 rfl) ?_
        refine fv_get (ci := 3) (v := .ref (ad 2)) (C := R_M) (T := F_M) (N := 13) hx hb hts (by decide +kernel) hown hK hP 0 0 rfl rfl rfl 1 (by decide) (hts (.fieldLink R_M 15 "PartShelves$Matching" "best" "[J") (by decide +kernel)) (fun _ h9 => h9) rfl d_M_addRow_9 ?_
        refine lv_iload_n hx hb d_M_addRow_12 rfl (lv_at hl 2 rfl) ?_
        refine fa_lald hx hb hK hP 0 2 1 rfl rfl rfl (by omega) (by decide) d_M_addRow_13 ?_
        refine nv_topl (y := rowMost be os bt k 0) (addRowF_le be os bt oc S k k (Nat.le_refl k)) ?_
        refine lv_lstore_n (lv' := [(3, .long (rowMost be os bt k 0)), (0, .ref (ad 0)), (1, .int (nI S)), (2, .int (nI k))]) hx hb d_M_addRow_14 rfl hl (by decide) rfl (fun ls hl => ?_)
        refine lv_iconst (v := nI 0) hx hb d_M_addRow_15 (by decide) ?_
        refine lv_istore (lv' := [(5, .int (nI 0)), (3, .long (rowMost be os bt k 0)), (0, .ref (ad 0)), (1, .int (nI S)), (2, .int (nI k))]) hx hb d_M_addRow_16 hl (by decide) rfl (fun ls hl => ?_)
        have L18 : ∀ (n18 : Nat) (i : Nat), oc - i < n18 → i ≤ oc → ∀ (H : Heap) (locs : List Loc), va_P D cls (fl [(wM kC ad sh (addRowF be os bt oc S k) ob os oc ar gi pg ag pn an prn tot)]) H → va_D A (fl [(wM kC ad sh (addRowF be os bt oc S k) ob os oc ar gi pg ag pn an prn tot)]) → va_S A s.heap H locs → ∀ (ls : Array Slot), lv_has ls 7 [(0, .ref (ad 0)), (1, .int (nI S)), (2, .int (nI k)), (3, .long (rowMost be os bt k i)), (5, .int (nI i))] → W p l e (headSpec w_M_addRow ({ frames := 1, cells := 0, slots := 0, locals := 15 } : Room)).room s m ([.ref (ad 0), .int (nI S)] : List Value).toArray below meth c H locs 0 0 (MQ below (gQv cls D (tyL kC) (fl [(wM kC ad sh be ob os oc ar gi pg ag pn an prn tot)]) s.heap.size (fl [(wM kC ad sh (addRowF be os bt oc S 0) ob os oc ar gi pg ag pn an prn tot)])) ([.ref (ad 0), .int (nI S)] : List Value).toArray s 0 0 (va_A (fl [(wM kC ad sh be ob os oc ar gi pg ag pn an prn tot)]) s.heap.size)) (F0 m 18 ls []) := by
          intro n18
          induction n18 with
          | zero =>
            intro i hm
            exact absurd hm (Nat.not_lt_zero _)
          | succ n18 ih18 =>
            intro i hm hi H locs hP hD hS ls hl
            refine lv_iload hx hb d_M_addRow_18 (lv_at hl 4 rfl) ?_
            refine lv_aload_n hx hb d_M_addRow_20 rfl (lv_at hl 0 rfl) ?_
            refine fv_get (ci := 3) (v := .int (nI oc)) (C := R_M) (T := F_M) (N := 13) hx hb hts (by decide +kernel) hown hK hP 0 0 rfl rfl rfl 4 (by decide) (hts (.fieldLink R_M 25 "PartShelves$Matching" "optionCount" "I") (by decide +kernel)) (fun _ h9 => h9) rfl d_M_addRow_21 ?_
            refine nv_icmp_ge (tgt := 71) hx hb d_M_addRow_24 (by decide) (by omega) (by omega) (fun hic => ?_) (fun hic => ?_)
            · obtain rfl : oc = i := by omega
              refine lv_aload_n hx hb d_M_addRow_71 rfl (lv_at hl 0 rfl) ?_
              refine fv_get (ci := 3) (v := .ref (ad 2)) (C := R_M) (T := F_M) (N := 13) hx hb hts (by decide +kernel) hown hK hP 0 0 rfl rfl rfl 1 (by decide) (hts (.fieldLink R_M 15 "PartShelves$Matching" "best" "[J") (by decide +kernel)) (fun _ h9 => h9) rfl d_M_addRow_72 ?_
              refine lv_iload_n hx hb d_M_addRow_75 rfl (lv_at hl 2 rfl) ?_
              refine lv_lload_n hx hb d_M_addRow_76 rfl (lv_at hl 3 rfl) ?_
              refine fa_last hx hb hK hP hD hS 0 2 1 rfl rfl rfl (by omega) (by decide) d_M_addRow_77 (fun H locs hP hD hS => ?_)
              have hP : va_P D cls (fl [(wM kC ad sh (vp_updL (addRowF be os bt oc S k) k (rowMost be os bt k oc)) ob os oc ar gi pg ag pn an prn tot)]) H := hP
              have hD : va_D A (fl [(wM kC ad sh (vp_updL (addRowF be os bt oc S k) k (rowMost be os bt k oc)) ob os oc ar gi pg ag pn an prn tot)]) := hD
              refine lv_iinc (v := nI (k - 1)) (lv' := [(2, .int (nI (k - 1))), (0, .ref (ad 0)), (1, .int (nI S)), (3, .long (rowMost be os bt k oc)), (5, .int (nI oc))]) hx hb d_M_addRow_78 hl (k := 2) rfl (m1_i hk0) (by decide) rfl (fun ls hl => ?_)
              refine lv_goto (tgt := 4) hx hb d_M_addRow_81 (by decide) ?_
              have ew1 : (vp_updL (addRowF be os bt oc S k) k (rowMost be os bt k oc)) = (addRowF be os bt oc S (k - 1)) := addRowF_s be os bt oc S k hk0 hk
              have hP : va_P D cls (fl [(wM kC ad sh (addRowF be os bt oc S (k - 1)) ob os oc ar gi pg ag pn an prn tot)]) H := by rw [← ew1]; exact hP
              have hD : va_D A (fl [(wM kC ad sh (addRowF be os bt oc S (k - 1)) ob os oc ar gi pg ag pn an prn tot)]) := by rw [← ew1]; exact hD
              exact ih4 (k - 1) (by omega) (by omega) _ _ hP hD hS ls (lv_sub hl [1, 2, 0] rfl)
            · obtain ⟨hob, q, hq, hbq⟩ := hbt i hic
              refine lv_aload_n hx hb d_M_addRow_27 rfl (lv_at hl 0 rfl) ?_
              refine fv_get (ci := 3) (v := .ref (ad 3)) (C := R_M) (T := F_M) (N := 13) hx hb hts (by decide +kernel) hown hK hP 0 0 rfl rfl rfl 2 (by decide) (hts (.fieldLink R_M 18 "PartShelves$Matching" "optionBits" "[I") (by decide +kernel)) (fun _ h9 => h9) rfl d_M_addRow_28 ?_
              refine lv_iload hx hb d_M_addRow_31 (lv_at hl 4 rfl) ?_
              refine fa_iald hx hb hK hP 0 3 0 rfl rfl rfl (by omega) (by decide) d_M_addRow_33 ?_
              refine nv_topi (y := nI (bt i)) (hob) ?_
              refine lv_istore (lv' := [(6, .int (nI (bt i))), (0, .ref (ad 0)), (1, .int (nI S)), (2, .int (nI k)), (3, .long (rowMost be os bt k i)), (5, .int (nI i))]) hx hb d_M_addRow_34 hl (by decide) rfl (fun ls hl => ?_)
              refine lv_iload_n hx hb d_M_addRow_36 rfl (lv_at hl 3 rfl) ?_
              refine lv_iload hx hb d_M_addRow_37 (lv_at hl 0 rfl) ?_
              refine lv_iand hx hb d_M_addRow_39 ?_
              refine nv_topi (y := nI (k &&& bt i)) (nx_and _ _) ?_
              refine nv_if_eq (tgt := 65) hx hb d_M_addRow_40 (by decide) (Nat.lt_of_le_of_lt Nat.and_le_left (by omega)) (fun hb0 => ?_) (fun hb0 => ?_)
              · have el2 : rowMost be os bt k i = rowMost be os bt k (i + 1) := (if_pos hb0).symm
                have hl : lv_has ls 7 [(6, .int (nI (bt i))), (0, .ref (ad 0)), (1, .int (nI S)), (2, .int (nI k)), (3, .long (rowMost be os bt k (i + 1))), (5, .int (nI i))] := by rw [← el2]; exact hl
                refine lv_iinc (v := nI (i + 1)) (lv' := [(5, .int (nI (i + 1))), (6, .int (nI (bt i))), (0, .ref (ad 0)), (1, .int (nI S)), (2, .int (nI k)), (3, .long (rowMost be os bt k (i + 1)))]) hx hb d_M_addRow_65 hl (k := 5) rfl (nI_1 i) (by decide) rfl (fun ls hl => ?_)
                refine lv_goto (tgt := 18) hx hb d_M_addRow_68 (by decide) ?_
                exact ih18 (i + 1) (by omega) (hic) _ _ hP hD hS ls (lv_sub hl [2, 3, 4, 5, 0] rfl)
              · have hxk : k ^^^ bt i < k := by rw [hbq] at hb0 ⊢; exact xor_lt (by omega) (by omega) hb0
                refine lv_lload_n hx hb d_M_addRow_43 rfl (lv_at hl 4 rfl) ?_
                refine lv_aload_n hx hb d_M_addRow_44 rfl (lv_at hl 1 rfl) ?_
                refine fv_get (ci := 3) (v := .ref (ad 2)) (C := R_M) (T := F_M) (N := 13) hx hb hts (by decide +kernel) hown hK hP 0 0 rfl rfl rfl 1 (by decide) (hts (.fieldLink R_M 15 "PartShelves$Matching" "best" "[J") (by decide +kernel)) (fun _ h9 => h9) rfl d_M_addRow_45 ?_
                refine lv_iload_n hx hb d_M_addRow_48 rfl (lv_at hl 3 rfl) ?_
                refine lv_iload hx hb d_M_addRow_49 (lv_at hl 0 rfl) ?_
                refine lv_ixor hx hb d_M_addRow_51 ?_
                refine nv_topi (y := nI (k ^^^ bt i)) (nx_xor _ _) ?_
                refine fa_lald hx hb hK hP 0 2 1 rfl rfl rfl (by omega) (by decide) d_M_addRow_52 ?_
                refine nv_topl (y := be (k ^^^ bt i)) (addRowF_le be os bt oc S k _ (Nat.le_of_lt hxk)) ?_
                refine lv_aload_n hx hb d_M_addRow_53 rfl (lv_at hl 1 rfl) ?_
                refine fv_get (ci := 3) (v := .ref (ad 4)) (C := R_M) (T := F_M) (N := 13) hx hb hts (by decide +kernel) hown hK hP 0 0 rfl rfl rfl 3 (by decide) (hts (.fieldLink R_M 22 "PartShelves$Matching" "optionShares" "[J") (by decide +kernel)) (fun _ h9 => h9) rfl d_M_addRow_54 ?_
                refine lv_iload hx hb d_M_addRow_57 (lv_at hl 5 rfl) ?_
                refine fa_lald hx hb hK hP 0 4 1 rfl rfl rfl (by omega) (by decide) d_M_addRow_59 ?_
                refine lv_ladd hx hb d_M_addRow_60 ?_
                refine va_mmax_long hx hb (by rw [hml]; exact hl.1.symm) hown (hts (.methodLink R_M 83 Lib.MathLoose.max_long.x) (by decide +kernel)) (hts (.static Lib.MathLoose.max_long.x) (by decide +kernel)) (hts (.initialized "java/lang/Math") (by decide +kernel)) (hts _ (List.mem_of_getElem? (i := 8) rfl)) (by decide) (by decide) (Nat.zero_le _) (Nat.zero_le _) d_M_addRow_61 ?_
                refine lv_lstore_n (lv' := [(3, .long (mxL (rowMost be os bt k i) ((be (k ^^^ bt i)) + (os i)))), (6, .int (nI (bt i))), (0, .ref (ad 0)), (1, .int (nI S)), (2, .int (nI k)), (5, .int (nI i))]) hx hb d_M_addRow_64 rfl hl (by decide) rfl (fun ls hl => ?_)
                have el3 : mxL (rowMost be os bt k i) ((be (k ^^^ bt i)) + (os i)) = rowMost be os bt k (i + 1) := (if_neg hb0).symm
                have hl : lv_has ls 7 [(3, .long (rowMost be os bt k (i + 1))), (6, .int (nI (bt i))), (0, .ref (ad 0)), (1, .int (nI S)), (2, .int (nI k)), (5, .int (nI i))] := by rw [← el3]; exact hl
                refine lv_iinc (v := nI (i + 1)) (lv' := [(5, .int (nI (i + 1))), (3, .long (rowMost be os bt k (i + 1))), (6, .int (nI (bt i))), (0, .ref (ad 0)), (1, .int (nI S)), (2, .int (nI k))]) hx hb d_M_addRow_65 hl (k := 5) rfl (nI_1 i) (by decide) rfl (fun ls hl => ?_)
                refine lv_goto (tgt := 18) hx hb d_M_addRow_68 (by decide) ?_
                exact ih18 (i + 1) (by omega) (hic) _ _ hP hD hS ls (lv_sub hl [3, 4, 5, 1, 0] rfl)
        exact L18 _ 0 (Nat.lt_succ_self _) (Nat.zero_le _) _ _ hP hD hS ls (lv_sub hl [2, 3, 4, 1, 0] rfl)
  have ew4 : be = (addRowF be os bt oc S (S - 1)) := (addRowF_S be os bt oc S).symm
  have hP : va_P D cls (fl [(wM kC ad sh (addRowF be os bt oc S (S - 1)) ob os oc ar gi pg ag pn an prn tot)]) s.heap := by rw [← ew4]; exact hP
  have hD : va_D A (fl [(wM kC ad sh (addRowF be os bt oc S (S - 1)) ob os oc ar gi pg ag pn an prn tot)]) := by rw [← ew4]; exact hD
  exact L4 _ (S - 1) (Nat.lt_succ_self _) (by omega) _ _ hP hD hS ls (lv_sub hl [1, 2, 0] rfl)

abbrev b_M_begin : ByteArray := prog_4_method_2_code
def y_M_begin : MethodName := ⟨"PartShelves$Matching", "begin", "(II)V"⟩
theorem d_M_begin_0 : decode b_M_begin 0 = .ok (.aload_n 0, 1) := by decide +kernel
theorem d_M_begin_1 : decode b_M_begin 1 = .ok (.iload_n 1, 1) := by decide +kernel
theorem d_M_begin_2 : decode b_M_begin 2 = .ok (.putfield 41, 3) := by decide +kernel
theorem d_M_begin_5 : decode b_M_begin 5 = .ok (.aload_n 0, 1) := by decide +kernel
theorem d_M_begin_6 : decode b_M_begin 6 = .ok (.iload_n 2, 1) := by decide +kernel
theorem d_M_begin_7 : decode b_M_begin 7 = .ok (.putfield 44, 3) := by decide +kernel
theorem d_M_begin_10 : decode b_M_begin 10 = .ok (.return_, 1) := by decide +kernel
def w_M_begin : List Cond := .code y_M_begin b_M_begin 3 none :: ([.fieldLink "PartShelves$Matching" 41 "PartShelves$Matching" "partCount" "I", .fieldLink "PartShelves$Matching" 44 "PartShelves$Matching" "askCount" "I"] ++ u_ws R_M F_M 13)
set_option maxHeartbeats 4000000 in
set_option maxRecDepth 100000 in
theorem c_M_begin (l : Launch) (D : va_G) (kC : Nat → ClassId) (ad : Nat → Nat) (sh : Nat → Int64) (be : Nat → Int64) (ob : Nat → Int32) (os : Nat → Int64) (oc : Nat) (ar : Nat → Int32) (gi : Nat → Int32) (pg : Nat → Int64) (ag : Nat → Int64) (pn : Nat) (an : Nat) (prn : Nat) (tot : Int64) (x : Nat) (y : Nat) (sz : Nat) : Met l y_M_begin w_M_begin ({ frames := 0, cells := 0, slots := 0, locals := 0 } : Room) (gPre cls D (tyL kC) [.ref (ad 0), .int (nI x), .int (nI y)] (fl [(wM kC ad sh be ob os oc ar gi pg ag pn an prn tot)]) sz) (gQv cls D (tyL kC) (fl [(wM kC ad sh be ob os oc ar gi pg ag pn an prn tot)]) sz (fl [(wM kC ad sh be ob os oc ar gi pg ag x y prn tot)])) 0 0 (va_A (fl [(wM kC ad sh be ob os oc ar gi pg ag pn an prn tot)]) sz) := by
  refine Met.ofW (cc := b_M_begin) (maxL := 3) (ret := none) (by decide) rfl ?_
  intro p e s m args below meth c s₁ B hml hv
  obtain ⟨rfl, hsz, hP, hK, hD0⟩ := hv
  have hx := B.exec
  have hb := B.bytes
  have hr := B.returns
  have hts := atoms_spec (ws := w_M_begin) B.pre
  have hown : s.vm.findClass R_M = some m.cls := findClass_of_methodNamed B.named
  have hlocks := B.notSynchronized
  subst hsz
  obtain ⟨A, hAe⟩ : ∃ A : Nat → Prop, A = va_A (fl [(wM kC ad sh be ob os oc ar gi pg ag pn an prn tot)]) s.heap.size := ⟨_, rfl⟩
  have hD : va_D A (fl [(wM kC ad sh be ob os oc ar gi pg ag pn an prn tot)]) := by rw [hAe]; exact hD0.self
  have hA : ∀ q : Nat, s.heap.size ≤ q → A q := fun q h => by rw [hAe]; exact Or.inr h
  have hS : va_S A s.heap s.heap [] := va_S.rf
  have hl := lv_entry ([.ref (ad 0), .int (nI x), .int (nI y)]) (n := 3) (Nat.le_of_ble_eq_true rfl)
  rw [lg_entry_eq]
  generalize (lg_sl ([.ref (ad 0), .int (nI x), .int (nI y)]) ++ List.replicate (3 - (lg_sl ([.ref (ad 0), .int (nI x), .int (nI y)])).length) Slot.unset).toArray = ls at hl ⊢
  have hl : lv_has ls 3 [(0, .ref (ad 0)), (1, .int (nI x)), (2, .int (nI y))] := hl
  refine lv_aload_n hx hb d_M_begin_0 rfl (lv_at hl 0 rfl) ?_
  refine lv_iload_n hx hb d_M_begin_1 rfl (lv_at hl 1 rfl) ?_
  refine fv_put (ci := 3) (v := .int (nI x)) (ty := (.int)) (C := R_M) (T := F_M) (N := 13) hx hb hts (by decide +kernel) t_M t_M_ok n_M hown hK hP hD hS 0 0 rfl rfl rfl 9 (by decide) (hts (.fieldLink R_M 41 "PartShelves$Matching" "partCount" "I") (by decide +kernel)) (fun _ h9 => h9) rfl (by decide +kernel) (rfl) (rfl) (Nat.le_of_ble_eq_true rfl) d_M_begin_2 (fun H locs hP hD hS => ?_)
  have hP : va_P D cls (fl [(wM kC ad sh be ob os oc ar gi pg ag x an prn tot)]) H := hP
  have hD : va_D A (fl [(wM kC ad sh be ob os oc ar gi pg ag x an prn tot)]) := hD
  refine lv_aload_n hx hb d_M_begin_5 rfl (lv_at hl 0 rfl) ?_
  refine lv_iload_n hx hb d_M_begin_6 rfl (lv_at hl 2 rfl) ?_
  refine fv_put (ci := 3) (v := .int (nI y)) (ty := (.int)) (C := R_M) (T := F_M) (N := 13) hx hb hts (by decide +kernel) t_M t_M_ok n_M hown hK hP hD hS 0 0 rfl rfl rfl 10 (by decide) (hts (.fieldLink R_M 44 "PartShelves$Matching" "askCount" "I") (by decide +kernel)) (fun _ h9 => h9) rfl (by decide +kernel) (rfl) (rfl) (Nat.le_of_ble_eq_true rfl) d_M_begin_7 (fun H locs hP hD hS => ?_)
  have hP : va_P D cls (fl [(wM kC ad sh be ob os oc ar gi pg ag x y prn tot)]) H := hP
  have hD : va_D A (fl [(wM kC ad sh be ob os oc ar gi pg ag x y prn tot)]) := hD
  exact W.vret hx hb hr (fun t ht hW => by subst hAe; exact ⟨⟨(), rfl, trivial, by rw [ht]; exact hP, va_K.moved hW.alike hK, hD⟩, hS.F ht⟩) (by subst hAe; exact hS.2.2) d_M_begin_10

abbrev b_M_stand : ByteArray := prog_4_method_3_code
def y_M_stand : MethodName := ⟨"PartShelves$Matching", "stand", "(II)V"⟩
theorem d_M_stand_0 : decode b_M_stand 0 = .ok (.aload_n 0, 1) := by decide +kernel
theorem d_M_stand_1 : decode b_M_stand 1 = .ok (.getfield 29, 3) := by decide +kernel
theorem d_M_stand_4 : decode b_M_stand 4 = .ok (.iload_n 2, 1) := by decide +kernel
theorem d_M_stand_5 : decode b_M_stand 5 = .ok (.iload_n 1, 1) := by decide +kernel
theorem d_M_stand_6 : decode b_M_stand 6 = .ok (.iastore, 1) := by decide +kernel
theorem d_M_stand_7 : decode b_M_stand 7 = .ok (.return_, 1) := by decide +kernel
def w_M_stand : List Cond := .code y_M_stand b_M_stand 3 none :: ([.fieldLink "PartShelves$Matching" 29 "PartShelves$Matching" "askByRank" "[I"] ++ u_ws R_M F_M 13)
set_option maxHeartbeats 4000000 in
set_option maxRecDepth 100000 in
theorem c_M_stand (l : Launch) (D : va_G) (kC : Nat → ClassId) (ad : Nat → Nat) (sh : Nat → Int64) (be : Nat → Int64) (ob : Nat → Int32) (os : Nat → Int64) (oc : Nat) (ar : Nat → Int32) (gi : Nat → Int32) (pg : Nat → Int64) (ag : Nat → Int64) (pn : Nat) (an : Nat) (prn : Nat) (tot : Int64) (x : Nat) (y : Nat) (sz : Nat) (hy : y < 8) : Met l y_M_stand w_M_stand ({ frames := 0, cells := 0, slots := 0, locals := 0 } : Room) (gPre cls D (tyL kC) [.ref (ad 0), .int (nI x), .int (nI y)] (fl [(wM kC ad sh be ob os oc ar gi pg ag pn an prn tot)]) sz) (gQv cls D (tyL kC) (fl [(wM kC ad sh be ob os oc ar gi pg ag pn an prn tot)]) sz (fl [(wM kC ad sh be ob os oc (upd ar y (nI x)) gi pg ag pn an prn tot)])) 0 0 (va_A (fl [(wM kC ad sh be ob os oc ar gi pg ag pn an prn tot)]) sz) := by
  refine Met.ofW (cc := b_M_stand) (maxL := 3) (ret := none) (by decide) rfl ?_
  intro p e s m args below meth c s₁ B hml hv
  obtain ⟨rfl, hsz, hP, hK, hD0⟩ := hv
  have hx := B.exec
  have hb := B.bytes
  have hr := B.returns
  have hts := atoms_spec (ws := w_M_stand) B.pre
  have hown : s.vm.findClass R_M = some m.cls := findClass_of_methodNamed B.named
  have hlocks := B.notSynchronized
  subst hsz
  obtain ⟨A, hAe⟩ : ∃ A : Nat → Prop, A = va_A (fl [(wM kC ad sh be ob os oc ar gi pg ag pn an prn tot)]) s.heap.size := ⟨_, rfl⟩
  have hD : va_D A (fl [(wM kC ad sh be ob os oc ar gi pg ag pn an prn tot)]) := by rw [hAe]; exact hD0.self
  have hA : ∀ q : Nat, s.heap.size ≤ q → A q := fun q h => by rw [hAe]; exact Or.inr h
  have hS : va_S A s.heap s.heap [] := va_S.rf
  have hl := lv_entry ([.ref (ad 0), .int (nI x), .int (nI y)]) (n := 3) (Nat.le_of_ble_eq_true rfl)
  rw [lg_entry_eq]
  generalize (lg_sl ([.ref (ad 0), .int (nI x), .int (nI y)]) ++ List.replicate (3 - (lg_sl ([.ref (ad 0), .int (nI x), .int (nI y)])).length) Slot.unset).toArray = ls at hl ⊢
  have hl : lv_has ls 3 [(0, .ref (ad 0)), (1, .int (nI x)), (2, .int (nI y))] := hl
  refine lv_aload_n hx hb d_M_stand_0 rfl (lv_at hl 0 rfl) ?_
  refine fv_get (ci := 3) (v := .ref (ad 5)) (C := R_M) (T := F_M) (N := 13) hx hb hts (by decide +kernel) hown hK hP 0 0 rfl rfl rfl 5 (by decide) (hts (.fieldLink R_M 29 "PartShelves$Matching" "askByRank" "[I") (by decide +kernel)) (fun _ h9 => h9) rfl d_M_stand_1 ?_
  refine lv_iload_n hx hb d_M_stand_4 rfl (lv_at hl 2 rfl) ?_
  refine lv_iload_n hx hb d_M_stand_5 rfl (lv_at hl 1 rfl) ?_
  refine fa_iast hx hb hK hP hD hS 0 5 0 rfl rfl rfl (by omega) (by decide) d_M_stand_6 (fun H locs hP hD hS => ?_)
  have hP : va_P D cls (fl [(wM kC ad sh be ob os oc (upd ar y (nI x)) gi pg ag pn an prn tot)]) H := hP
  have hD : va_D A (fl [(wM kC ad sh be ob os oc (upd ar y (nI x)) gi pg ag pn an prn tot)]) := hD
  exact W.vret hx hb hr (fun t ht hW => by subst hAe; exact ⟨⟨(), rfl, trivial, by rw [ht]; exact hP, va_K.moved hW.alike hK, hD⟩, hS.F ht⟩) (by subst hAe; exact hS.2.2) d_M_stand_7

abbrev b_M_offer : ByteArray := prog_4_method_4_code
def y_M_offer : MethodName := ⟨"PartShelves$Matching", "offer", "(IIJ)V"⟩
theorem d_M_offer_0 : decode b_M_offer 0 = .ok (.aload_n 0, 1) := by decide +kernel
theorem d_M_offer_1 : decode b_M_offer 1 = .ok (.getfield 9, 3) := by decide +kernel
theorem d_M_offer_4 : decode b_M_offer 4 = .ok (.iload_n 1, 1) := by decide +kernel
theorem d_M_offer_5 : decode b_M_offer 5 = .ok (.bipush 8, 2) := by decide +kernel
theorem d_M_offer_7 : decode b_M_offer 7 = .ok (.imul, 1) := by decide +kernel
theorem d_M_offer_8 : decode b_M_offer 8 = .ok (.iload_n 2, 1) := by decide +kernel
theorem d_M_offer_9 : decode b_M_offer 9 = .ok (.iadd, 1) := by decide +kernel
theorem d_M_offer_10 : decode b_M_offer 10 = .ok (.lload_n 3, 1) := by decide +kernel
theorem d_M_offer_11 : decode b_M_offer 11 = .ok (.lastore, 1) := by decide +kernel
theorem d_M_offer_12 : decode b_M_offer 12 = .ok (.return_, 1) := by decide +kernel
def w_M_offer : List Cond := .code y_M_offer b_M_offer 5 none :: ([.fieldLink "PartShelves$Matching" 9 "PartShelves$Matching" "shares" "[J"] ++ u_ws R_M F_M 13)
set_option maxHeartbeats 4000000 in
set_option maxRecDepth 100000 in
theorem c_M_offer (l : Launch) (D : va_G) (kC : Nat → ClassId) (ad : Nat → Nat) (sh : Nat → Int64) (be : Nat → Int64) (ob : Nat → Int32) (os : Nat → Int64) (oc : Nat) (ar : Nat → Int32) (gi : Nat → Int32) (pg : Nat → Int64) (ag : Nat → Int64) (pn : Nat) (an : Nat) (prn : Nat) (tot : Int64) (x : Nat) (y : Nat) (v : Int64) (sz : Nat) (hx8 : x < 8) (hy : y < 8) : Met l y_M_offer w_M_offer ({ frames := 0, cells := 0, slots := 0, locals := 0 } : Room) (gPre cls D (tyL kC) [.ref (ad 0), .int (nI x), .int (nI y), .long v] (fl [(wM kC ad sh be ob os oc ar gi pg ag pn an prn tot)]) sz) (gQv cls D (tyL kC) (fl [(wM kC ad sh be ob os oc ar gi pg ag pn an prn tot)]) sz (fl [(wM kC ad (vp_updL sh (x * 8 + y) v) be ob os oc ar gi pg ag pn an prn tot)])) 0 0 (va_A (fl [(wM kC ad sh be ob os oc ar gi pg ag pn an prn tot)]) sz) := by
  refine Met.ofW (cc := b_M_offer) (maxL := 5) (ret := none) (by decide) rfl ?_
  intro p e s m args below meth c s₁ B hml hv
  obtain ⟨rfl, hsz, hP, hK, hD0⟩ := hv
  have hx := B.exec
  have hb := B.bytes
  have hr := B.returns
  have hts := atoms_spec (ws := w_M_offer) B.pre
  have hown : s.vm.findClass R_M = some m.cls := findClass_of_methodNamed B.named
  have hlocks := B.notSynchronized
  subst hsz
  obtain ⟨A, hAe⟩ : ∃ A : Nat → Prop, A = va_A (fl [(wM kC ad sh be ob os oc ar gi pg ag pn an prn tot)]) s.heap.size := ⟨_, rfl⟩
  have hD : va_D A (fl [(wM kC ad sh be ob os oc ar gi pg ag pn an prn tot)]) := by rw [hAe]; exact hD0.self
  have hA : ∀ q : Nat, s.heap.size ≤ q → A q := fun q h => by rw [hAe]; exact Or.inr h
  have hS : va_S A s.heap s.heap [] := va_S.rf
  have hl := lv_entry ([.ref (ad 0), .int (nI x), .int (nI y), .long v]) (n := 5) (Nat.le_of_ble_eq_true rfl)
  rw [lg_entry_eq]
  generalize (lg_sl ([.ref (ad 0), .int (nI x), .int (nI y), .long v]) ++ List.replicate (5 - (lg_sl ([.ref (ad 0), .int (nI x), .int (nI y), .long v])).length) Slot.unset).toArray = ls at hl ⊢
  have hl : lv_has ls 5 [(0, .ref (ad 0)), (1, .int (nI x)), (2, .int (nI y)), (3, .long v)] := hl
  refine lv_aload_n hx hb d_M_offer_0 rfl (lv_at hl 0 rfl) ?_
  refine fv_get (ci := 3) (v := .ref (ad 1)) (C := R_M) (T := F_M) (N := 13) hx hb hts (by decide +kernel) hown hK hP 0 0 rfl rfl rfl 0 (by decide) (hts (.fieldLink R_M 9 "PartShelves$Matching" "shares" "[J") (by decide +kernel)) (fun _ h9 => h9) rfl d_M_offer_1 ?_
  refine lv_iload_n hx hb d_M_offer_4 rfl (lv_at hl 1 rfl) ?_
  refine lv_bipush (v := nI 8) hx hb d_M_offer_5 (by decide +kernel) ?_
  refine nv_imul hx hb d_M_offer_7 ?_
  refine lv_iload_n hx hb d_M_offer_8 rfl (lv_at hl 2 rfl) ?_
  refine nv_iadd hx hb d_M_offer_9 ?_
  refine lv_lload_n hx hb d_M_offer_10 rfl (lv_at hl 3 rfl) ?_
  refine fa_last hx hb hK hP hD hS 0 1 1 rfl rfl rfl (by omega) (by decide) d_M_offer_11 (fun H locs hP hD hS => ?_)
  have hP : va_P D cls (fl [(wM kC ad (vp_updL sh (x * 8 + y) v) be ob os oc ar gi pg ag pn an prn tot)]) H := hP
  have hD : va_D A (fl [(wM kC ad (vp_updL sh (x * 8 + y) v) be ob os oc ar gi pg ag pn an prn tot)]) := hD
  exact W.vret hx hb hr (fun t ht hW => by subst hAe; exact ⟨⟨(), rfl, trivial, by rw [ht]; exact hP, va_K.moved hW.alike hK, hD⟩, hS.F ht⟩) (by subst hAe; exact hS.2.2) d_M_offer_12

abbrev b_M_partFor : ByteArray := prog_4_method_6_code
def y_M_partFor : MethodName := ⟨"PartShelves$Matching", "partFor", "(I)I"⟩
theorem d_M_partFor_0 : decode b_M_partFor 0 = .ok (.iload_n 1, 1) := by decide +kernel
theorem d_M_partFor_1 : decode b_M_partFor 1 = .ok (.ifCond .lt 20, 3) := by decide +kernel
theorem d_M_partFor_4 : decode b_M_partFor 4 = .ok (.iload_n 1, 1) := by decide +kernel
theorem d_M_partFor_5 : decode b_M_partFor 5 = .ok (.aload_n 0, 1) := by decide +kernel
theorem d_M_partFor_6 : decode b_M_partFor 6 = .ok (.getfield 44, 3) := by decide +kernel
theorem d_M_partFor_9 : decode b_M_partFor 9 = .ok (.if_icmp .ge 12, 3) := by decide +kernel
theorem d_M_partFor_12 : decode b_M_partFor 12 = .ok (.aload_n 0, 1) := by decide +kernel
theorem d_M_partFor_13 : decode b_M_partFor 13 = .ok (.getfield 32, 3) := by decide +kernel
theorem d_M_partFor_16 : decode b_M_partFor 16 = .ok (.iload_n 1, 1) := by decide +kernel
theorem d_M_partFor_17 : decode b_M_partFor 17 = .ok (.iaload, 1) := by decide +kernel
theorem d_M_partFor_18 : decode b_M_partFor 18 = .ok (.goto 4, 3) := by decide +kernel
theorem d_M_partFor_21 : decode b_M_partFor 21 = .ok (.iconst (-1), 1) := by decide +kernel
theorem d_M_partFor_22 : decode b_M_partFor 22 = .ok (.ireturn, 1) := by decide +kernel
def w_M_partFor : List Cond := .code y_M_partFor b_M_partFor 2 (some .int) :: ([.fieldLink "PartShelves$Matching" 44 "PartShelves$Matching" "askCount" "I", .fieldLink "PartShelves$Matching" 32 "PartShelves$Matching" "given" "[I"] ++ u_ws R_M F_M 13)
set_option maxHeartbeats 4000000 in
set_option maxRecDepth 100000 in
theorem c_M_partFor (l : Launch) (D : va_G) (kC : Nat → ClassId) (ad : Nat → Nat) (sh : Nat → Int64) (be : Nat → Int64) (ob : Nat → Int32) (os : Nat → Int64) (oc : Nat) (ar : Nat → Int32) (gi : Nat → Int32) (pg : Nat → Int64) (ag : Nat → Int64) (pn : Nat) (an : Nat) (prn : Nat) (tot : Int64) (x : Int32) (h8 : an ≤ 8) : Met l y_M_partFor w_M_partFor ({ frames := 0, cells := 0, slots := 0, locals := 0 } : Room) (gPr cls D (tyL kC) [.ref (ad 0), .int x] (fl [(wM kC ad sh be ob os oc ar gi pg ag pn an prn tot)])) (vp_Si (fun r => r = atR gi (-1) x an)) 0 0 (fun _ => False) := by
  refine Met.ofW (cc := b_M_partFor) (maxL := 2) (ret := (some .int)) (by decide) rfl ?_
  intro p e s m args below meth c s₁ B hml hv
  obtain ⟨rfl, hP, hK⟩ := hv
  have hx := B.exec
  have hb := B.bytes
  have hr := B.returns
  have hts := atoms_spec (ws := w_M_partFor) B.pre
  have hown : s.vm.findClass R_M = some m.cls := findClass_of_methodNamed B.named
  have hlocks := B.notSynchronized
  have hl := lv_entry ([.ref (ad 0), .int x]) (n := 2) (Nat.le_of_ble_eq_true rfl)
  rw [lg_entry_eq]
  generalize (lg_sl ([.ref (ad 0), .int x]) ++ List.replicate (2 - (lg_sl ([.ref (ad 0), .int x])).length) Slot.unset).toArray = ls at hl ⊢
  have hl : lv_has ls 2 [(0, .ref (ad 0)), (1, .int x)] := hl
  refine lv_iload_n hx hb d_M_partFor_0 rfl (lv_at hl 1 rfl) ?_
  refine lv_if_lt (tgt := 21) hx hb d_M_partFor_1 (by decide) (fun h0 => ?_) (fun h0 => ?_)
  · refine lv_iconst (v := (-1)) hx hb d_M_partFor_21 (by decide) ?_
    exact W.iret (v := (-1)) hx hb hr (fun t ht hW => ⟨_, rfl, (atR_no (by first | exact inR_lt h0 | exact inR_ge (by omega) h1)).symm, ht⟩) t_nil d_M_partFor_22
  · refine lv_iload_n hx hb d_M_partFor_4 rfl (lv_at hl 1 rfl) ?_
    refine lv_aload_n hx hb d_M_partFor_5 rfl (lv_at hl 0 rfl) ?_
    refine fv_get (ci := 3) (v := .int (nI an)) (C := R_M) (T := F_M) (N := 13) hx hb hts (by decide +kernel) hown hK hP 0 0 rfl rfl rfl 10 (by decide) (hts (.fieldLink R_M 44 "PartShelves$Matching" "askCount" "I") (by decide +kernel)) (fun _ h9 => h9) rfl d_M_partFor_6 ?_
    refine lv_icmp_ge (tgt := 21) hx hb d_M_partFor_9 (by decide) (fun h1 => ?_) (fun h1 => ?_)
    · refine lv_iconst (v := (-1)) hx hb d_M_partFor_21 (by decide) ?_
      exact W.iret (v := (-1)) hx hb hr (fun t ht hW => ⟨_, rfl, (atR_no (by first | exact inR_lt h0 | exact inR_ge (by omega) h1)).symm, ht⟩) t_nil d_M_partFor_22
    · obtain ⟨j, hj, rfl⟩ := in_of (by omega) h0 h1
      refine lv_aload_n hx hb d_M_partFor_12 rfl (lv_at hl 0 rfl) ?_
      refine fv_get (ci := 3) (v := .ref (ad 6)) (C := R_M) (T := F_M) (N := 13) hx hb hts (by decide +kernel) hown hK hP 0 0 rfl rfl rfl 6 (by decide) (hts (.fieldLink R_M 32 "PartShelves$Matching" "given" "[I") (by decide +kernel)) (fun _ h9 => h9) rfl d_M_partFor_13 ?_
      refine lv_iload_n hx hb d_M_partFor_16 rfl (lv_at hl 1 rfl) ?_
      refine fa_iald hx hb hK hP 0 6 0 rfl rfl rfl (by omega) (by decide) d_M_partFor_17 ?_
      refine lv_goto (tgt := 22) hx hb d_M_partFor_18 (by decide) ?_
      exact W.iret (v := gi j) hx hb hr (fun t ht hW => ⟨_, rfl, (atR_nI hj (by omega)).symm, ht⟩) t_nil d_M_partFor_22

abbrev b_M_gainOfPart : ByteArray := prog_4_method_7_code
def y_M_gainOfPart : MethodName := ⟨"PartShelves$Matching", "gainOfPart", "(I)J"⟩
theorem d_M_gainOfPart_0 : decode b_M_gainOfPart 0 = .ok (.iload_n 1, 1) := by decide +kernel
theorem d_M_gainOfPart_1 : decode b_M_gainOfPart 1 = .ok (.ifCond .lt 20, 3) := by decide +kernel
theorem d_M_gainOfPart_4 : decode b_M_gainOfPart 4 = .ok (.iload_n 1, 1) := by decide +kernel
theorem d_M_gainOfPart_5 : decode b_M_gainOfPart 5 = .ok (.aload_n 0, 1) := by decide +kernel
theorem d_M_gainOfPart_6 : decode b_M_gainOfPart 6 = .ok (.getfield 41, 3) := by decide +kernel
theorem d_M_gainOfPart_9 : decode b_M_gainOfPart 9 = .ok (.if_icmp .ge 12, 3) := by decide +kernel
theorem d_M_gainOfPart_12 : decode b_M_gainOfPart 12 = .ok (.aload_n 0, 1) := by decide +kernel
theorem d_M_gainOfPart_13 : decode b_M_gainOfPart 13 = .ok (.getfield 35, 3) := by decide +kernel
theorem d_M_gainOfPart_16 : decode b_M_gainOfPart 16 = .ok (.iload_n 1, 1) := by decide +kernel
theorem d_M_gainOfPart_17 : decode b_M_gainOfPart 17 = .ok (.laload, 1) := by decide +kernel
theorem d_M_gainOfPart_18 : decode b_M_gainOfPart 18 = .ok (.goto 6, 3) := by decide +kernel
theorem d_M_gainOfPart_21 : decode b_M_gainOfPart 21 = .ok (.ldc2_w 50, 3) := by decide +kernel
theorem d_M_gainOfPart_24 : decode b_M_gainOfPart 24 = .ok (.lreturn, 1) := by decide +kernel
def w_M_gainOfPart : List Cond := .code y_M_gainOfPart b_M_gainOfPart 2 (some .long) :: ([.fieldLink "PartShelves$Matching" 41 "PartShelves$Matching" "partCount" "I", .fieldLink "PartShelves$Matching" 35 "PartShelves$Matching" "partGains" "[J", .constantLong "PartShelves$Matching" 50 (-1)] ++ u_ws R_M F_M 13)
set_option maxHeartbeats 4000000 in
set_option maxRecDepth 100000 in
theorem c_M_gainOfPart (l : Launch) (D : va_G) (kC : Nat → ClassId) (ad : Nat → Nat) (sh : Nat → Int64) (be : Nat → Int64) (ob : Nat → Int32) (os : Nat → Int64) (oc : Nat) (ar : Nat → Int32) (gi : Nat → Int32) (pg : Nat → Int64) (ag : Nat → Int64) (pn : Nat) (an : Nat) (prn : Nat) (tot : Int64) (x : Int32) (h8 : pn ≤ 8) : Met l y_M_gainOfPart w_M_gainOfPart ({ frames := 0, cells := 0, slots := 0, locals := 0 } : Room) (gPr cls D (tyL kC) [.ref (ad 0), .int x] (fl [(wM kC ad sh be ob os oc ar gi pg ag pn an prn tot)])) (vp_Sl (fun r => r = atL pg (-1) x pn)) 0 0 (fun _ => False) := by
  refine Met.ofW (cc := b_M_gainOfPart) (maxL := 2) (ret := (some .long)) (by decide) rfl ?_
  intro p e s m args below meth c s₁ B hml hv
  obtain ⟨rfl, hP, hK⟩ := hv
  have hx := B.exec
  have hb := B.bytes
  have hr := B.returns
  have hts := atoms_spec (ws := w_M_gainOfPart) B.pre
  have hown : s.vm.findClass R_M = some m.cls := findClass_of_methodNamed B.named
  have hlocks := B.notSynchronized
  have hl := lv_entry ([.ref (ad 0), .int x]) (n := 2) (Nat.le_of_ble_eq_true rfl)
  rw [lg_entry_eq]
  generalize (lg_sl ([.ref (ad 0), .int x]) ++ List.replicate (2 - (lg_sl ([.ref (ad 0), .int x])).length) Slot.unset).toArray = ls at hl ⊢
  have hl : lv_has ls 2 [(0, .ref (ad 0)), (1, .int x)] := hl
  refine lv_iload_n hx hb d_M_gainOfPart_0 rfl (lv_at hl 1 rfl) ?_
  refine lv_if_lt (tgt := 21) hx hb d_M_gainOfPart_1 (by decide) (fun h0 => ?_) (fun h0 => ?_)
  · refine lv_ldc2 (v := (-1)) hx hb hown (hts (.constantLong R_M 50 (-1)) (by decide +kernel)) d_M_gainOfPart_21 ?_
    exact W.lret (v := (-1)) hx hb hr (fun t ht hW => ⟨_, rfl, (atL_no (by first | exact inR_lt h0 | exact inR_ge (by omega) h1)).symm, ht⟩) t_nil d_M_gainOfPart_24
  · refine lv_iload_n hx hb d_M_gainOfPart_4 rfl (lv_at hl 1 rfl) ?_
    refine lv_aload_n hx hb d_M_gainOfPart_5 rfl (lv_at hl 0 rfl) ?_
    refine fv_get (ci := 3) (v := .int (nI pn)) (C := R_M) (T := F_M) (N := 13) hx hb hts (by decide +kernel) hown hK hP 0 0 rfl rfl rfl 9 (by decide) (hts (.fieldLink R_M 41 "PartShelves$Matching" "partCount" "I") (by decide +kernel)) (fun _ h9 => h9) rfl d_M_gainOfPart_6 ?_
    refine lv_icmp_ge (tgt := 21) hx hb d_M_gainOfPart_9 (by decide) (fun h1 => ?_) (fun h1 => ?_)
    · refine lv_ldc2 (v := (-1)) hx hb hown (hts (.constantLong R_M 50 (-1)) (by decide +kernel)) d_M_gainOfPart_21 ?_
      exact W.lret (v := (-1)) hx hb hr (fun t ht hW => ⟨_, rfl, (atL_no (by first | exact inR_lt h0 | exact inR_ge (by omega) h1)).symm, ht⟩) t_nil d_M_gainOfPart_24
    · obtain ⟨j, hj, rfl⟩ := in_of (by omega) h0 h1
      refine lv_aload_n hx hb d_M_gainOfPart_12 rfl (lv_at hl 0 rfl) ?_
      refine fv_get (ci := 3) (v := .ref (ad 7)) (C := R_M) (T := F_M) (N := 13) hx hb hts (by decide +kernel) hown hK hP 0 0 rfl rfl rfl 7 (by decide) (hts (.fieldLink R_M 35 "PartShelves$Matching" "partGains" "[J") (by decide +kernel)) (fun _ h9 => h9) rfl d_M_gainOfPart_13 ?_
      refine lv_iload_n hx hb d_M_gainOfPart_16 rfl (lv_at hl 1 rfl) ?_
      refine fa_lald hx hb hK hP 0 7 1 rfl rfl rfl (by omega) (by decide) d_M_gainOfPart_17 ?_
      refine lv_goto (tgt := 24) hx hb d_M_gainOfPart_18 (by decide) ?_
      exact W.lret (v := pg j) hx hb hr (fun t ht hW => ⟨_, rfl, (atL_nI hj (by omega)).symm, ht⟩) t_nil d_M_gainOfPart_24

abbrev b_M_gainOfAsk : ByteArray := prog_4_method_8_code
def y_M_gainOfAsk : MethodName := ⟨"PartShelves$Matching", "gainOfAsk", "(I)J"⟩
theorem d_M_gainOfAsk_0 : decode b_M_gainOfAsk 0 = .ok (.iload_n 1, 1) := by decide +kernel
theorem d_M_gainOfAsk_1 : decode b_M_gainOfAsk 1 = .ok (.ifCond .lt 20, 3) := by decide +kernel
theorem d_M_gainOfAsk_4 : decode b_M_gainOfAsk 4 = .ok (.iload_n 1, 1) := by decide +kernel
theorem d_M_gainOfAsk_5 : decode b_M_gainOfAsk 5 = .ok (.aload_n 0, 1) := by decide +kernel
theorem d_M_gainOfAsk_6 : decode b_M_gainOfAsk 6 = .ok (.getfield 44, 3) := by decide +kernel
theorem d_M_gainOfAsk_9 : decode b_M_gainOfAsk 9 = .ok (.if_icmp .ge 12, 3) := by decide +kernel
theorem d_M_gainOfAsk_12 : decode b_M_gainOfAsk 12 = .ok (.aload_n 0, 1) := by decide +kernel
theorem d_M_gainOfAsk_13 : decode b_M_gainOfAsk 13 = .ok (.getfield 38, 3) := by decide +kernel
theorem d_M_gainOfAsk_16 : decode b_M_gainOfAsk 16 = .ok (.iload_n 1, 1) := by decide +kernel
theorem d_M_gainOfAsk_17 : decode b_M_gainOfAsk 17 = .ok (.laload, 1) := by decide +kernel
theorem d_M_gainOfAsk_18 : decode b_M_gainOfAsk 18 = .ok (.goto 6, 3) := by decide +kernel
theorem d_M_gainOfAsk_21 : decode b_M_gainOfAsk 21 = .ok (.ldc2_w 50, 3) := by decide +kernel
theorem d_M_gainOfAsk_24 : decode b_M_gainOfAsk 24 = .ok (.lreturn, 1) := by decide +kernel
def w_M_gainOfAsk : List Cond := .code y_M_gainOfAsk b_M_gainOfAsk 2 (some .long) :: ([.fieldLink "PartShelves$Matching" 44 "PartShelves$Matching" "askCount" "I", .fieldLink "PartShelves$Matching" 38 "PartShelves$Matching" "askGains" "[J", .constantLong "PartShelves$Matching" 50 (-1)] ++ u_ws R_M F_M 13)
set_option maxHeartbeats 4000000 in
set_option maxRecDepth 100000 in
theorem c_M_gainOfAsk (l : Launch) (D : va_G) (kC : Nat → ClassId) (ad : Nat → Nat) (sh : Nat → Int64) (be : Nat → Int64) (ob : Nat → Int32) (os : Nat → Int64) (oc : Nat) (ar : Nat → Int32) (gi : Nat → Int32) (pg : Nat → Int64) (ag : Nat → Int64) (pn : Nat) (an : Nat) (prn : Nat) (tot : Int64) (x : Int32) (h8 : an ≤ 8) : Met l y_M_gainOfAsk w_M_gainOfAsk ({ frames := 0, cells := 0, slots := 0, locals := 0 } : Room) (gPr cls D (tyL kC) [.ref (ad 0), .int x] (fl [(wM kC ad sh be ob os oc ar gi pg ag pn an prn tot)])) (vp_Sl (fun r => r = atL ag (-1) x an)) 0 0 (fun _ => False) := by
  refine Met.ofW (cc := b_M_gainOfAsk) (maxL := 2) (ret := (some .long)) (by decide) rfl ?_
  intro p e s m args below meth c s₁ B hml hv
  obtain ⟨rfl, hP, hK⟩ := hv
  have hx := B.exec
  have hb := B.bytes
  have hr := B.returns
  have hts := atoms_spec (ws := w_M_gainOfAsk) B.pre
  have hown : s.vm.findClass R_M = some m.cls := findClass_of_methodNamed B.named
  have hlocks := B.notSynchronized
  have hl := lv_entry ([.ref (ad 0), .int x]) (n := 2) (Nat.le_of_ble_eq_true rfl)
  rw [lg_entry_eq]
  generalize (lg_sl ([.ref (ad 0), .int x]) ++ List.replicate (2 - (lg_sl ([.ref (ad 0), .int x])).length) Slot.unset).toArray = ls at hl ⊢
  have hl : lv_has ls 2 [(0, .ref (ad 0)), (1, .int x)] := hl
  refine lv_iload_n hx hb d_M_gainOfAsk_0 rfl (lv_at hl 1 rfl) ?_
  refine lv_if_lt (tgt := 21) hx hb d_M_gainOfAsk_1 (by decide) (fun h0 => ?_) (fun h0 => ?_)
  · refine lv_ldc2 (v := (-1)) hx hb hown (hts (.constantLong R_M 50 (-1)) (by decide +kernel)) d_M_gainOfAsk_21 ?_
    exact W.lret (v := (-1)) hx hb hr (fun t ht hW => ⟨_, rfl, (atL_no (by first | exact inR_lt h0 | exact inR_ge (by omega) h1)).symm, ht⟩) t_nil d_M_gainOfAsk_24
  · refine lv_iload_n hx hb d_M_gainOfAsk_4 rfl (lv_at hl 1 rfl) ?_
    refine lv_aload_n hx hb d_M_gainOfAsk_5 rfl (lv_at hl 0 rfl) ?_
    refine fv_get (ci := 3) (v := .int (nI an)) (C := R_M) (T := F_M) (N := 13) hx hb hts (by decide +kernel) hown hK hP 0 0 rfl rfl rfl 10 (by decide) (hts (.fieldLink R_M 44 "PartShelves$Matching" "askCount" "I") (by decide +kernel)) (fun _ h9 => h9) rfl d_M_gainOfAsk_6 ?_
    refine lv_icmp_ge (tgt := 21) hx hb d_M_gainOfAsk_9 (by decide) (fun h1 => ?_) (fun h1 => ?_)
    · refine lv_ldc2 (v := (-1)) hx hb hown (hts (.constantLong R_M 50 (-1)) (by decide +kernel)) d_M_gainOfAsk_21 ?_
      exact W.lret (v := (-1)) hx hb hr (fun t ht hW => ⟨_, rfl, (atL_no (by first | exact inR_lt h0 | exact inR_ge (by omega) h1)).symm, ht⟩) t_nil d_M_gainOfAsk_24
    · obtain ⟨j, hj, rfl⟩ := in_of (by omega) h0 h1
      refine lv_aload_n hx hb d_M_gainOfAsk_12 rfl (lv_at hl 0 rfl) ?_
      refine fv_get (ci := 3) (v := .ref (ad 8)) (C := R_M) (T := F_M) (N := 13) hx hb hts (by decide +kernel) hown hK hP 0 0 rfl rfl rfl 8 (by decide) (hts (.fieldLink R_M 38 "PartShelves$Matching" "askGains" "[J") (by decide +kernel)) (fun _ h9 => h9) rfl d_M_gainOfAsk_13 ?_
      refine lv_iload_n hx hb d_M_gainOfAsk_16 rfl (lv_at hl 1 rfl) ?_
      refine fa_lald hx hb hK hP 0 8 1 rfl rfl rfl (by omega) (by decide) d_M_gainOfAsk_17 ?_
      refine lv_goto (tgt := 24) hx hb d_M_gainOfAsk_18 (by decide) ?_
      exact W.lret (v := ag j) hx hb hr (fun t ht hW => ⟨_, rfl, (atL_nI hj (by omega)).symm, ht⟩) t_nil d_M_gainOfAsk_24

abbrev b_M_collectOptions : ByteArray := prog_4_method_11_code
def y_M_collectOptions : MethodName := ⟨"PartShelves$Matching", "collectOptions", "(III)V"⟩
theorem d_M_collectOptions_0 : decode b_M_collectOptions 0 = .ok (.aload_n 0, 1) := by decide +kernel
theorem d_M_collectOptions_1 : decode b_M_collectOptions 1 = .ok (.iconst 0, 1) := by decide +kernel
theorem d_M_collectOptions_2 : decode b_M_collectOptions 2 = .ok (.putfield 25, 3) := by decide +kernel
theorem d_M_collectOptions_5 : decode b_M_collectOptions 5 = .ok (.iconst 0, 1) := by decide +kernel
theorem d_M_collectOptions_6 : decode b_M_collectOptions 6 = .ok (.istore 4, 2) := by decide +kernel
theorem d_M_collectOptions_8 : decode b_M_collectOptions 8 = .ok (.iload 4, 2) := by decide +kernel
theorem d_M_collectOptions_10 : decode b_M_collectOptions 10 = .ok (.iload_n 2, 1) := by decide +kernel
theorem d_M_collectOptions_11 : decode b_M_collectOptions 11 = .ok (.if_icmp .ge 65, 3) := by decide +kernel
theorem d_M_collectOptions_14 : decode b_M_collectOptions 14 = .ok (.aload_n 0, 1) := by decide +kernel
theorem d_M_collectOptions_15 : decode b_M_collectOptions 15 = .ok (.getfield 9, 3) := by decide +kernel
theorem d_M_collectOptions_18 : decode b_M_collectOptions 18 = .ok (.iload_n 1, 1) := by decide +kernel
theorem d_M_collectOptions_19 : decode b_M_collectOptions 19 = .ok (.iload 4, 2) := by decide +kernel
theorem d_M_collectOptions_21 : decode b_M_collectOptions 21 = .ok (.iload_n 3, 1) := by decide +kernel
theorem d_M_collectOptions_22 : decode b_M_collectOptions 22 = .ok (.imul, 1) := by decide +kernel
theorem d_M_collectOptions_23 : decode b_M_collectOptions 23 = .ok (.iadd, 1) := by decide +kernel
theorem d_M_collectOptions_24 : decode b_M_collectOptions 24 = .ok (.laload, 1) := by decide +kernel
theorem d_M_collectOptions_25 : decode b_M_collectOptions 25 = .ok (.lstore 5, 2) := by decide +kernel
theorem d_M_collectOptions_27 : decode b_M_collectOptions 27 = .ok (.lload 5, 2) := by decide +kernel
theorem d_M_collectOptions_29 : decode b_M_collectOptions 29 = .ok (.ldc2_w 50, 3) := by decide +kernel
theorem d_M_collectOptions_32 : decode b_M_collectOptions 32 = .ok (.lcmp, 1) := by decide +kernel
theorem d_M_collectOptions_33 : decode b_M_collectOptions 33 = .ok (.ifCond .eq 37, 3) := by decide +kernel
theorem d_M_collectOptions_36 : decode b_M_collectOptions 36 = .ok (.aload_n 0, 1) := by decide +kernel
theorem d_M_collectOptions_37 : decode b_M_collectOptions 37 = .ok (.getfield 18, 3) := by decide +kernel
theorem d_M_collectOptions_40 : decode b_M_collectOptions 40 = .ok (.aload_n 0, 1) := by decide +kernel
theorem d_M_collectOptions_41 : decode b_M_collectOptions 41 = .ok (.getfield 25, 3) := by decide +kernel
theorem d_M_collectOptions_44 : decode b_M_collectOptions 44 = .ok (.iconst 1, 1) := by decide +kernel
theorem d_M_collectOptions_45 : decode b_M_collectOptions 45 = .ok (.iload 4, 2) := by decide +kernel
theorem d_M_collectOptions_47 : decode b_M_collectOptions 47 = .ok (.ishl, 1) := by decide +kernel
theorem d_M_collectOptions_48 : decode b_M_collectOptions 48 = .ok (.iastore, 1) := by decide +kernel
theorem d_M_collectOptions_49 : decode b_M_collectOptions 49 = .ok (.aload_n 0, 1) := by decide +kernel
theorem d_M_collectOptions_50 : decode b_M_collectOptions 50 = .ok (.getfield 22, 3) := by decide +kernel
theorem d_M_collectOptions_53 : decode b_M_collectOptions 53 = .ok (.aload_n 0, 1) := by decide +kernel
theorem d_M_collectOptions_54 : decode b_M_collectOptions 54 = .ok (.getfield 25, 3) := by decide +kernel
theorem d_M_collectOptions_57 : decode b_M_collectOptions 57 = .ok (.lload 5, 2) := by decide +kernel
theorem d_M_collectOptions_59 : decode b_M_collectOptions 59 = .ok (.lastore, 1) := by decide +kernel
theorem d_M_collectOptions_60 : decode b_M_collectOptions 60 = .ok (.aload_n 0, 1) := by decide +kernel
theorem d_M_collectOptions_61 : decode b_M_collectOptions 61 = .ok (.dup, 1) := by decide +kernel
theorem d_M_collectOptions_62 : decode b_M_collectOptions 62 = .ok (.getfield 25, 3) := by decide +kernel
theorem d_M_collectOptions_65 : decode b_M_collectOptions 65 = .ok (.iconst 1, 1) := by decide +kernel
theorem d_M_collectOptions_66 : decode b_M_collectOptions 66 = .ok (.iadd, 1) := by decide +kernel
theorem d_M_collectOptions_67 : decode b_M_collectOptions 67 = .ok (.putfield 25, 3) := by decide +kernel
theorem d_M_collectOptions_70 : decode b_M_collectOptions 70 = .ok (.iinc 4 1, 3) := by decide +kernel
theorem d_M_collectOptions_73 : decode b_M_collectOptions 73 = .ok (.goto (-65), 3) := by decide +kernel
theorem d_M_collectOptions_76 : decode b_M_collectOptions 76 = .ok (.return_, 1) := by decide +kernel
def w_M_collectOptions : List Cond := .code y_M_collectOptions b_M_collectOptions 7 none :: ([.fieldLink "PartShelves$Matching" 25 "PartShelves$Matching" "optionCount" "I", .fieldLink "PartShelves$Matching" 9 "PartShelves$Matching" "shares" "[J", .constantLong "PartShelves$Matching" 50 (-1), .fieldLink "PartShelves$Matching" 18 "PartShelves$Matching" "optionBits" "[I", .fieldLink "PartShelves$Matching" 22 "PartShelves$Matching" "optionShares" "[J"] ++ u_ws R_M F_M 13)
set_option maxHeartbeats 4000000 in
set_option maxRecDepth 100000 in
theorem c_M_coll (l : Launch) (D : va_G) (kC : Nat → ClassId) (ad : Nat → Nat) (sh : Nat → Int64) (be : Nat → Int64) (ob : Nat → Int32) (os : Nat → Int64) (oc : Nat) (ar : Nat → Int32) (gi : Nat → Int32) (pg : Nat → Int64) (ag : Nat → Int64) (pn : Nat) (an : Nat) (prn : Nat) (tot : Int64) (f : Nat) (M : Nat) (st : Nat) (sz : Nat) (eM : M ≤ 8) (hix : ∀ i, i < M → f + i * st < 64) : Met l y_M_collectOptions w_M_collectOptions ({ frames := 0, cells := 0, slots := 0, locals := 0 } : Room) (gPre cls D (tyL kC) [.ref (ad 0), .int (nI f), .int (nI M), .int (nI st)] (fl [(wM kC ad sh be ob os oc ar gi pg ag pn an prn tot)]) sz) (gQv cls D (tyL kC) (fl [(wM kC ad sh be ob os oc ar gi pg ag pn an prn tot)]) sz (fl [(wM kC ad sh be (coB sh f st ob M) (coS sh f st os M) (coC sh f st M) ar gi pg ag pn an prn tot)])) 0 0 (va_A (fl [(wM kC ad sh be ob os oc ar gi pg ag pn an prn tot)]) sz) := by
  refine Met.ofW (cc := b_M_collectOptions) (maxL := 7) (ret := none) (by decide) rfl ?_
  intro p e s m args below meth c s₁ B hml hv
  obtain ⟨rfl, hsz, hP, hK, hD0⟩ := hv
  have hx := B.exec
  have hb := B.bytes
  have hr := B.returns
  have hts := atoms_spec (ws := w_M_collectOptions) B.pre
  have hown : s.vm.findClass R_M = some m.cls := findClass_of_methodNamed B.named
  have hlocks := B.notSynchronized
  subst hsz
  obtain ⟨A, hAe⟩ : ∃ A : Nat → Prop, A = va_A (fl [(wM kC ad sh be ob os oc ar gi pg ag pn an prn tot)]) s.heap.size := ⟨_, rfl⟩
  have hD : va_D A (fl [(wM kC ad sh be ob os oc ar gi pg ag pn an prn tot)]) := by rw [hAe]; exact hD0.self
  have hA : ∀ q : Nat, s.heap.size ≤ q → A q := fun q h => by rw [hAe]; exact Or.inr h
  have hS : va_S A s.heap s.heap [] := va_S.rf
  have hl := lv_entry ([.ref (ad 0), .int (nI f), .int (nI M), .int (nI st)]) (n := 7) (Nat.le_of_ble_eq_true rfl)
  rw [lg_entry_eq]
  generalize (lg_sl ([.ref (ad 0), .int (nI f), .int (nI M), .int (nI st)]) ++ List.replicate (7 - (lg_sl ([.ref (ad 0), .int (nI f), .int (nI M), .int (nI st)])).length) Slot.unset).toArray = ls at hl ⊢
  have hl : lv_has ls 7 [(0, .ref (ad 0)), (1, .int (nI f)), (2, .int (nI M)), (3, .int (nI st))] := hl
  refine lv_aload_n hx hb d_M_collectOptions_0 rfl (lv_at hl 0 rfl) ?_
  refine lv_iconst (v := nI 0) hx hb d_M_collectOptions_1 (by decide) ?_
  refine fv_put (ci := 3) (v := .int (nI 0)) (ty := (.int)) (C := R_M) (T := F_M) (N := 13) hx hb hts (by decide +kernel) t_M t_M_ok n_M hown hK hP hD hS 0 0 rfl rfl rfl 4 (by decide) (hts (.fieldLink R_M 25 "PartShelves$Matching" "optionCount" "I") (by decide +kernel)) (fun _ h9 => h9) rfl (by decide +kernel) (rfl) (rfl) (Nat.le_of_ble_eq_true rfl) d_M_collectOptions_2 (fun H locs hP hD hS => ?_)
  have hP : va_P D cls (fl [(wM kC ad sh be ob os 0 ar gi pg ag pn an prn tot)]) H := hP
  have hD : va_D A (fl [(wM kC ad sh be ob os 0 ar gi pg ag pn an prn tot)]) := hD
  refine lv_iconst (v := nI 0) hx hb d_M_collectOptions_5 (by decide) ?_
  refine lv_istore (lv' := [(4, .int (nI 0)), (0, .ref (ad 0)), (1, .int (nI f)), (2, .int (nI M)), (3, .int (nI st))]) hx hb d_M_collectOptions_6 hl (by decide) rfl (fun ls hl => ?_)
  have L8 : ∀ (n8 : Nat) (i : Nat), M - i < n8 → i ≤ M → ∀ (H : Heap) (locs : List Loc), va_P D cls (fl [(wM kC ad sh be (coB sh f st ob i) (coS sh f st os i) (coC sh f st i) ar gi pg ag pn an prn tot)]) H → va_D A (fl [(wM kC ad sh be (coB sh f st ob i) (coS sh f st os i) (coC sh f st i) ar gi pg ag pn an prn tot)]) → va_S A s.heap H locs → ∀ (ls : Array Slot), lv_has ls 7 [(0, .ref (ad 0)), (1, .int (nI f)), (2, .int (nI M)), (3, .int (nI st)), (4, .int (nI i))] → W p l e (headSpec w_M_collectOptions ({ frames := 0, cells := 0, slots := 0, locals := 0 } : Room)).room s m ([.ref (ad 0), .int (nI f), .int (nI M), .int (nI st)] : List Value).toArray below meth c H locs 0 0 (MQ below (gQv cls D (tyL kC) (fl [(wM kC ad sh be ob os oc ar gi pg ag pn an prn tot)]) s.heap.size (fl [(wM kC ad sh be (coB sh f st ob M) (coS sh f st os M) (coC sh f st M) ar gi pg ag pn an prn tot)])) ([.ref (ad 0), .int (nI f), .int (nI M), .int (nI st)] : List Value).toArray s 0 0 (va_A (fl [(wM kC ad sh be ob os oc ar gi pg ag pn an prn tot)]) s.heap.size)) (F0 m 8 ls []) := by
    intro n8
    induction n8 with
    | zero =>
      intro i hm
      exact absurd hm (Nat.not_lt_zero _)
    | succ n8 ih8 =>
      intro i hm hiM H locs hP hD hS ls hl
      refine lv_iload hx hb d_M_collectOptions_8 (lv_at hl 4 rfl) ?_
      refine lv_iload_n hx hb d_M_collectOptions_10 rfl (lv_at hl 2 rfl) ?_
      refine nv_icmp_ge (tgt := 76) hx hb d_M_collectOptions_11 (by decide) (by omega) (by omega) (fun hi => ?_) (fun hi => ?_)
      · obtain rfl : M = i := by omega
        exact W.vret hx hb hr (fun t ht hW => by subst hAe; exact ⟨⟨(), rfl, trivial, by rw [ht]; exact hP, va_K.moved hW.alike hK, hD⟩, hS.F ht⟩) (by subst hAe; exact hS.2.2) d_M_collectOptions_76
      · have hcl := coC_le sh f st i
        refine lv_aload_n hx hb d_M_collectOptions_14 rfl (lv_at hl 0 rfl) ?_
        refine fv_get (ci := 3) (v := .ref (ad 1)) (C := R_M) (T := F_M) (N := 13) hx hb hts (by decide +kernel) hown hK hP 0 0 rfl rfl rfl 0 (by decide) (hts (.fieldLink R_M 9 "PartShelves$Matching" "shares" "[J") (by decide +kernel)) (fun _ h9 => h9) rfl d_M_collectOptions_15 ?_
        refine lv_iload_n hx hb d_M_collectOptions_18 rfl (lv_at hl 1 rfl) ?_
        refine lv_iload hx hb d_M_collectOptions_19 (lv_at hl 4 rfl) ?_
        refine lv_iload_n hx hb d_M_collectOptions_21 rfl (lv_at hl 3 rfl) ?_
        refine nv_imul hx hb d_M_collectOptions_22 ?_
        refine nv_iadd hx hb d_M_collectOptions_23 ?_
        refine fa_lald hx hb hK hP 0 1 1 rfl rfl rfl (hix i hi) (by decide) d_M_collectOptions_24 ?_
        refine lv_lstore (lv' := [(5, .long (sh (f + i * st))), (0, .ref (ad 0)), (1, .int (nI f)), (2, .int (nI M)), (3, .int (nI st)), (4, .int (nI i))]) hx hb d_M_collectOptions_25 hl (by decide) rfl (fun ls hl => ?_)
        refine lv_lload hx hb d_M_collectOptions_27 (lv_at hl 0 rfl) ?_
        refine lv_ldc2 (v := (-1)) hx hb hown (hts (.constantLong R_M 50 (-1)) (by decide +kernel)) d_M_collectOptions_29 ?_
        refine lc_eq (tgt := 70) hx hb d_M_collectOptions_32 d_M_collectOptions_33 (by decide) (fun hv => ?_) (fun hv => ?_)
        · refine lv_iinc (v := nI (i + 1)) (lv' := [(4, .int (nI (i + 1))), (5, .long (sh (f + i * st))), (0, .ref (ad 0)), (1, .int (nI f)), (2, .int (nI M)), (3, .int (nI st))]) hx hb d_M_collectOptions_70 hl (k := 5) rfl (nI_1 i) (by decide) rfl (fun ls hl => ?_)
          refine lv_goto (tgt := 8) hx hb d_M_collectOptions_73 (by decide) ?_
          have ew1 : (coB sh f st ob i) = (coB sh f st ob (i + 1)) := (if_pos hv).symm
          have hP : va_P D cls (fl [(wM kC ad sh be (coB sh f st ob (i + 1)) (coS sh f st os i) (coC sh f st i) ar gi pg ag pn an prn tot)]) H := by rw [← ew1]; exact hP
          have hD : va_D A (fl [(wM kC ad sh be (coB sh f st ob (i + 1)) (coS sh f st os i) (coC sh f st i) ar gi pg ag pn an prn tot)]) := by rw [← ew1]; exact hD
          have ew2 : (coS sh f st os i) = (coS sh f st os (i + 1)) := (if_pos hv).symm
          have hP : va_P D cls (fl [(wM kC ad sh be (coB sh f st ob (i + 1)) (coS sh f st os (i + 1)) (coC sh f st i) ar gi pg ag pn an prn tot)]) H := by rw [← ew2]; exact hP
          have hD : va_D A (fl [(wM kC ad sh be (coB sh f st ob (i + 1)) (coS sh f st os (i + 1)) (coC sh f st i) ar gi pg ag pn an prn tot)]) := by rw [← ew2]; exact hD
          have ew3 : (coC sh f st i) = (coC sh f st (i + 1)) := (if_pos hv).symm
          have hP : va_P D cls (fl [(wM kC ad sh be (coB sh f st ob (i + 1)) (coS sh f st os (i + 1)) (coC sh f st (i + 1)) ar gi pg ag pn an prn tot)]) H := by rw [← ew3]; exact hP
          have hD : va_D A (fl [(wM kC ad sh be (coB sh f st ob (i + 1)) (coS sh f st os (i + 1)) (coC sh f st (i + 1)) ar gi pg ag pn an prn tot)]) := by rw [← ew3]; exact hD
          exact ih8 (i + 1) (by omega) (hi) _ _ hP hD hS ls (lv_sub hl [2, 3, 4, 5, 0] rfl)
        · refine lv_aload_n hx hb d_M_collectOptions_36 rfl (lv_at hl 1 rfl) ?_
          refine fv_get (ci := 3) (v := .ref (ad 3)) (C := R_M) (T := F_M) (N := 13) hx hb hts (by decide +kernel) hown hK hP 0 0 rfl rfl rfl 2 (by decide) (hts (.fieldLink R_M 18 "PartShelves$Matching" "optionBits" "[I") (by decide +kernel)) (fun _ h9 => h9) rfl d_M_collectOptions_37 ?_
          refine lv_aload_n hx hb d_M_collectOptions_40 rfl (lv_at hl 1 rfl) ?_
          refine fv_get (ci := 3) (v := .int (nI (coC sh f st i))) (C := R_M) (T := F_M) (N := 13) hx hb hts (by decide +kernel) hown hK hP 0 0 rfl rfl rfl 4 (by decide) (hts (.fieldLink R_M 25 "PartShelves$Matching" "optionCount" "I") (by decide +kernel)) (fun _ h9 => h9) rfl d_M_collectOptions_41 ?_
          refine lv_iconst (v := nI 1) hx hb d_M_collectOptions_44 (by decide) ?_
          refine lv_iload hx hb d_M_collectOptions_45 (lv_at hl 5 rfl) ?_
          refine lv_ishl hx hb d_M_collectOptions_47 ?_
          refine nv_topi (y := nI (2 ^ i)) (shl1 i (by omega)) ?_
          refine fa_iast hx hb hK hP hD hS 0 3 0 rfl rfl rfl (by omega) (by decide) d_M_collectOptions_48 (fun H locs hP hD hS => ?_)
          have hP : va_P D cls (fl [(wM kC ad sh be (upd (coB sh f st ob i) (coC sh f st i) (nI (2 ^ i))) (coS sh f st os i) (coC sh f st i) ar gi pg ag pn an prn tot)]) H := hP
          have hD : va_D A (fl [(wM kC ad sh be (upd (coB sh f st ob i) (coC sh f st i) (nI (2 ^ i))) (coS sh f st os i) (coC sh f st i) ar gi pg ag pn an prn tot)]) := hD
          refine lv_aload_n hx hb d_M_collectOptions_49 rfl (lv_at hl 1 rfl) ?_
          refine fv_get (ci := 3) (v := .ref (ad 4)) (C := R_M) (T := F_M) (N := 13) hx hb hts (by decide +kernel) hown hK hP 0 0 rfl rfl rfl 3 (by decide) (hts (.fieldLink R_M 22 "PartShelves$Matching" "optionShares" "[J") (by decide +kernel)) (fun _ h9 => h9) rfl d_M_collectOptions_50 ?_
          refine lv_aload_n hx hb d_M_collectOptions_53 rfl (lv_at hl 1 rfl) ?_
          refine fv_get (ci := 3) (v := .int (nI (coC sh f st i))) (C := R_M) (T := F_M) (N := 13) hx hb hts (by decide +kernel) hown hK hP 0 0 rfl rfl rfl 4 (by decide) (hts (.fieldLink R_M 25 "PartShelves$Matching" "optionCount" "I") (by decide +kernel)) (fun _ h9 => h9) rfl d_M_collectOptions_54 ?_
          refine lv_lload hx hb d_M_collectOptions_57 (lv_at hl 0 rfl) ?_
          refine fa_last hx hb hK hP hD hS 0 4 1 rfl rfl rfl (by omega) (by decide) d_M_collectOptions_59 (fun H locs hP hD hS => ?_)
          have hP : va_P D cls (fl [(wM kC ad sh be (upd (coB sh f st ob i) (coC sh f st i) (nI (2 ^ i))) (vp_updL (coS sh f st os i) (coC sh f st i) (sh (f + i * st))) (coC sh f st i) ar gi pg ag pn an prn tot)]) H := hP
          have hD : va_D A (fl [(wM kC ad sh be (upd (coB sh f st ob i) (coC sh f st i) (nI (2 ^ i))) (vp_updL (coS sh f st os i) (coC sh f st i) (sh (f + i * st))) (coC sh f st i) ar gi pg ag pn an prn tot)]) := hD
          refine lv_aload_n hx hb d_M_collectOptions_60 rfl (lv_at hl 1 rfl) ?_
          refine lv_dup hx hb d_M_collectOptions_61 rfl ?_
          refine fv_get (ci := 3) (v := .int (nI (coC sh f st i))) (C := R_M) (T := F_M) (N := 13) hx hb hts (by decide +kernel) hown hK hP 0 0 rfl rfl rfl 4 (by decide) (hts (.fieldLink R_M 25 "PartShelves$Matching" "optionCount" "I") (by decide +kernel)) (fun _ h9 => h9) rfl d_M_collectOptions_62 ?_
          refine lv_iconst (v := nI 1) hx hb d_M_collectOptions_65 (by decide) ?_
          refine nv_iadd hx hb d_M_collectOptions_66 ?_
          refine fv_put (ci := 3) (v := .int (nI ((coC sh f st i) + 1))) (ty := (.int)) (C := R_M) (T := F_M) (N := 13) hx hb hts (by decide +kernel) t_M t_M_ok n_M hown hK hP hD hS 0 0 rfl rfl rfl 4 (by decide) (hts (.fieldLink R_M 25 "PartShelves$Matching" "optionCount" "I") (by decide +kernel)) (fun _ h9 => h9) rfl (by decide +kernel) (rfl) (rfl) (Nat.le_of_ble_eq_true rfl) d_M_collectOptions_67 (fun H locs hP hD hS => ?_)
          have hP : va_P D cls (fl [(wM kC ad sh be (upd (coB sh f st ob i) (coC sh f st i) (nI (2 ^ i))) (vp_updL (coS sh f st os i) (coC sh f st i) (sh (f + i * st))) ((coC sh f st i) + 1) ar gi pg ag pn an prn tot)]) H := hP
          have hD : va_D A (fl [(wM kC ad sh be (upd (coB sh f st ob i) (coC sh f st i) (nI (2 ^ i))) (vp_updL (coS sh f st os i) (coC sh f st i) (sh (f + i * st))) ((coC sh f st i) + 1) ar gi pg ag pn an prn tot)]) := hD
          refine lv_iinc (v := nI (i + 1)) (lv' := [(4, .int (nI (i + 1))), (5, .long (sh (f + i * st))), (0, .ref (ad 0)), (1, .int (nI f)), (2, .int (nI M)), (3, .int (nI st))]) hx hb d_M_collectOptions_70 hl (k := 5) rfl (nI_1 i) (by decide) rfl (fun ls hl => ?_)
          refine lv_goto (tgt := 8) hx hb d_M_collectOptions_73 (by decide) ?_
          have ew4 : (upd (coB sh f st ob i) (coC sh f st i) (nI (2 ^ i))) = (coB sh f st ob (i + 1)) := (if_neg hv).symm
          have hP : va_P D cls (fl [(wM kC ad sh be (coB sh f st ob (i + 1)) (vp_updL (coS sh f st os i) (coC sh f st i) (sh (f + i * st))) ((coC sh f st i) + 1) ar gi pg ag pn an prn tot)]) H := by rw [← ew4]; exact hP
          have hD : va_D A (fl [(wM kC ad sh be (coB sh f st ob (i + 1)) (vp_updL (coS sh f st os i) (coC sh f st i) (sh (f + i * st))) ((coC sh f st i) + 1) ar gi pg ag pn an prn tot)]) := by rw [← ew4]; exact hD
          have ew5 : (vp_updL (coS sh f st os i) (coC sh f st i) (sh (f + i * st))) = (coS sh f st os (i + 1)) := (if_neg hv).symm
          have hP : va_P D cls (fl [(wM kC ad sh be (coB sh f st ob (i + 1)) (coS sh f st os (i + 1)) ((coC sh f st i) + 1) ar gi pg ag pn an prn tot)]) H := by rw [← ew5]; exact hP
          have hD : va_D A (fl [(wM kC ad sh be (coB sh f st ob (i + 1)) (coS sh f st os (i + 1)) ((coC sh f st i) + 1) ar gi pg ag pn an prn tot)]) := by rw [← ew5]; exact hD
          have ew6 : ((coC sh f st i) + 1) = (coC sh f st (i + 1)) := (if_neg hv).symm
          have hP : va_P D cls (fl [(wM kC ad sh be (coB sh f st ob (i + 1)) (coS sh f st os (i + 1)) (coC sh f st (i + 1)) ar gi pg ag pn an prn tot)]) H := by rw [← ew6]; exact hP
          have hD : va_D A (fl [(wM kC ad sh be (coB sh f st ob (i + 1)) (coS sh f st os (i + 1)) (coC sh f st (i + 1)) ar gi pg ag pn an prn tot)]) := by rw [← ew6]; exact hD
          exact ih8 (i + 1) (by omega) (hi) _ _ hP hD hS ls (lv_sub hl [2, 3, 4, 5, 0] rfl)
  exact L8 _ 0 (Nat.lt_succ_self _) (Nat.zero_le _) _ _ hP hD hS ls (lv_sub hl [1, 2, 3, 4, 0] rfl)

abbrev b_M_weighSets : ByteArray := prog_4_method_10_code
def y_M_weighSets : MethodName := ⟨"PartShelves$Matching", "weighSets", "(IIII)V"⟩
theorem d_M_weighSets_0 : decode b_M_weighSets 0 = .ok (.iconst 1, 1) := by decide +kernel
theorem d_M_weighSets_1 : decode b_M_weighSets 1 = .ok (.iload_n 3, 1) := by decide +kernel
theorem d_M_weighSets_2 : decode b_M_weighSets 2 = .ok (.ishl, 1) := by decide +kernel
theorem d_M_weighSets_3 : decode b_M_weighSets 3 = .ok (.istore 5, 2) := by decide +kernel
theorem d_M_weighSets_5 : decode b_M_weighSets 5 = .ok (.iconst 0, 1) := by decide +kernel
theorem d_M_weighSets_6 : decode b_M_weighSets 6 = .ok (.istore 6, 2) := by decide +kernel
theorem d_M_weighSets_8 : decode b_M_weighSets 8 = .ok (.iload 6, 2) := by decide +kernel
theorem d_M_weighSets_10 : decode b_M_weighSets 10 = .ok (.iload 5, 2) := by decide +kernel
theorem d_M_weighSets_12 : decode b_M_weighSets 12 = .ok (.if_icmp .ge 17, 3) := by decide +kernel
theorem d_M_weighSets_15 : decode b_M_weighSets 15 = .ok (.aload_n 0, 1) := by decide +kernel
theorem d_M_weighSets_16 : decode b_M_weighSets 16 = .ok (.getfield 15, 3) := by decide +kernel
theorem d_M_weighSets_19 : decode b_M_weighSets 19 = .ok (.iload 6, 2) := by decide +kernel
theorem d_M_weighSets_21 : decode b_M_weighSets 21 = .ok (.lconst 0, 1) := by decide +kernel
theorem d_M_weighSets_22 : decode b_M_weighSets 22 = .ok (.lastore, 1) := by decide +kernel
theorem d_M_weighSets_23 : decode b_M_weighSets 23 = .ok (.iinc 6 1, 3) := by decide +kernel
theorem d_M_weighSets_26 : decode b_M_weighSets 26 = .ok (.goto (-18), 3) := by decide +kernel
theorem d_M_weighSets_29 : decode b_M_weighSets 29 = .ok (.iconst 0, 1) := by decide +kernel
theorem d_M_weighSets_30 : decode b_M_weighSets 30 = .ok (.istore 6, 2) := by decide +kernel
theorem d_M_weighSets_32 : decode b_M_weighSets 32 = .ok (.iload 6, 2) := by decide +kernel
theorem d_M_weighSets_34 : decode b_M_weighSets 34 = .ok (.iload_n 1, 1) := by decide +kernel
theorem d_M_weighSets_35 : decode b_M_weighSets 35 = .ok (.if_icmp .ge 33, 3) := by decide +kernel
theorem d_M_weighSets_38 : decode b_M_weighSets 38 = .ok (.aload_n 0, 1) := by decide +kernel
theorem d_M_weighSets_39 : decode b_M_weighSets 39 = .ok (.iload 6, 2) := by decide +kernel
theorem d_M_weighSets_41 : decode b_M_weighSets 41 = .ok (.iload_n 2, 1) := by decide +kernel
theorem d_M_weighSets_42 : decode b_M_weighSets 42 = .ok (.imul, 1) := by decide +kernel
theorem d_M_weighSets_43 : decode b_M_weighSets 43 = .ok (.iload_n 3, 1) := by decide +kernel
theorem d_M_weighSets_44 : decode b_M_weighSets 44 = .ok (.iload 4, 2) := by decide +kernel
theorem d_M_weighSets_46 : decode b_M_weighSets 46 = .ok (.invokevirtual 75, 3) := by decide +kernel
theorem d_M_weighSets_49 : decode b_M_weighSets 49 = .ok (.aload_n 0, 1) := by decide +kernel
theorem d_M_weighSets_50 : decode b_M_weighSets 50 = .ok (.getfield 25, 3) := by decide +kernel
theorem d_M_weighSets_53 : decode b_M_weighSets 53 = .ok (.ifCond .le 9, 3) := by decide +kernel
theorem d_M_weighSets_56 : decode b_M_weighSets 56 = .ok (.aload_n 0, 1) := by decide +kernel
theorem d_M_weighSets_57 : decode b_M_weighSets 57 = .ok (.iload 5, 2) := by decide +kernel
theorem d_M_weighSets_59 : decode b_M_weighSets 59 = .ok (.invokevirtual 79, 3) := by decide +kernel
theorem d_M_weighSets_62 : decode b_M_weighSets 62 = .ok (.iinc 6 1, 3) := by decide +kernel
theorem d_M_weighSets_65 : decode b_M_weighSets 65 = .ok (.goto (-33), 3) := by decide +kernel
theorem d_M_weighSets_68 : decode b_M_weighSets 68 = .ok (.return_, 1) := by decide +kernel
def w_M_weighSets : List Cond := .code y_M_weighSets b_M_weighSets 7 none :: ([.fieldLink "PartShelves$Matching" 15 "PartShelves$Matching" "best" "[J", .methodLink "PartShelves$Matching" 75 ⟨"PartShelves$Matching", "collectOptions", "(III)V"⟩, .instanceMethod ⟨"PartShelves$Matching", "collectOptions", "(III)V"⟩, .selects "PartShelves$Matching" ⟨"PartShelves$Matching", "collectOptions", "(III)V"⟩ ⟨"PartShelves$Matching", "collectOptions", "(III)V"⟩, .initialized "PartShelves$Matching", .code ⟨"PartShelves$Matching", "collectOptions", "(III)V"⟩ prog_4_method_11_code 7 none, .fieldLink "PartShelves$Matching" 25 "PartShelves$Matching" "optionCount" "I", .fieldLink "PartShelves$Matching" 9 "PartShelves$Matching" "shares" "[J", .constantLong "PartShelves$Matching" 50 (-1), .fieldLink "PartShelves$Matching" 18 "PartShelves$Matching" "optionBits" "[I", .fieldLink "PartShelves$Matching" 22 "PartShelves$Matching" "optionShares" "[J", .methodLink "PartShelves$Matching" 79 ⟨"PartShelves$Matching", "addRow", "(I)V"⟩, .instanceMethod ⟨"PartShelves$Matching", "addRow", "(I)V"⟩, .selects "PartShelves$Matching" ⟨"PartShelves$Matching", "addRow", "(I)V"⟩ ⟨"PartShelves$Matching", "addRow", "(I)V"⟩, .code ⟨"PartShelves$Matching", "addRow", "(I)V"⟩ prog_4_method_12_code 7 none, .methodLink "PartShelves$Matching" 83 ⟨"java/lang/Math", "max", "(JJ)J"⟩, .static ⟨"java/lang/Math", "max", "(JJ)J"⟩, .initialized "java/lang/Math", .code ⟨"java/lang/Math", "max", "(JJ)J"⟩ prog_14_method_66_code 4 (some .long)] ++ u_ws R_M F_M 13)
set_option maxRecDepth 20000 in
theorem g_M_weigh_coll : GoodIn w_M_weighSets (wsV R_M 75 R_M y_M_collectOptions w_M_collectOptions) := goodIn_p _ [6] rfl (by decide +kernel)
set_option maxRecDepth 20000 in
theorem g_M_weigh_add : GoodIn w_M_weighSets (wsV R_M 79 R_M y_M_addRow w_M_addRow) := goodIn_p _ [15, 19] rfl (by decide +kernel)
set_option maxHeartbeats 4000000 in
set_option maxRecDepth 100000 in
theorem c_M_weigh (l : Launch) (D : va_G) (kC : Nat → ClassId) (ad : Nat → Nat) (sh : Nat → Int64) (be : Nat → Int64) (ob : Nat → Int32) (os : Nat → Int64) (oc : Nat) (ar : Nat → Int32) (gi : Nat → Int32) (pg : Nat → Int64) (ag : Nat → Int64) (pn : Nat) (an : Nat) (prn : Nat) (tot : Int64) (rws : Nat) (rs : Nat) (M : Nat) (st : Nat) (sz : Nat) (eM : M ≤ 8) (hR : rws ≤ 8) (hix : ∀ r, r < rws → ∀ i, i < M → r * rs + i * st < 64) : Met l y_M_weighSets w_M_weighSets ({ frames := 2, cells := 0, slots := 0, locals := 41 } : Room) (gPre cls D (tyL kC) [.ref (ad 0), .int (nI rws), .int (nI rs), .int (nI M), .int (nI st)] (fl [(wM kC ad sh be ob os oc ar gi pg ag pn an prn tot)]) sz) (gQv cls D (tyL kC) (fl [(wM kC ad sh be ob os oc ar gi pg ag pn an prn tot)]) sz (fl [(wM kC ad sh (wsB sh rs st M (2 ^ M) be os rws) (wsOb sh rs st M ob rws) (wsOs sh rs st M os rws) (wsOc sh rs st M oc rws) ar gi pg ag pn an prn tot)])) 0 0 (va_A (fl [(wM kC ad sh be ob os oc ar gi pg ag pn an prn tot)]) sz) := by
  refine Met.ofW (cc := b_M_weighSets) (maxL := 7) (ret := none) (by decide) rfl ?_
  intro p e s m args below meth c s₁ B hml hv
  obtain ⟨rfl, hsz, hP, hK, hD0⟩ := hv
  have hx := B.exec
  have hb := B.bytes
  have hr := B.returns
  have hts := atoms_spec (ws := w_M_weighSets) B.pre
  have hown : s.vm.findClass R_M = some m.cls := findClass_of_methodNamed B.named
  have hlocks := B.notSynchronized
  subst hsz
  obtain ⟨A, hAe⟩ : ∃ A : Nat → Prop, A = va_A (fl [(wM kC ad sh be ob os oc ar gi pg ag pn an prn tot)]) s.heap.size := ⟨_, rfl⟩
  have hD : va_D A (fl [(wM kC ad sh be ob os oc ar gi pg ag pn an prn tot)]) := by rw [hAe]; exact hD0.self
  have hA : ∀ q : Nat, s.heap.size ≤ q → A q := fun q h => by rw [hAe]; exact Or.inr h
  have hS : va_S A s.heap s.heap [] := va_S.rf
  have hl := lv_entry ([.ref (ad 0), .int (nI rws), .int (nI rs), .int (nI M), .int (nI st)]) (n := 7) (Nat.le_of_ble_eq_true rfl)
  rw [lg_entry_eq]
  generalize (lg_sl ([.ref (ad 0), .int (nI rws), .int (nI rs), .int (nI M), .int (nI st)]) ++ List.replicate (7 - (lg_sl ([.ref (ad 0), .int (nI rws), .int (nI rs), .int (nI M), .int (nI st)])).length) Slot.unset).toArray = ls at hl ⊢
  have hl : lv_has ls 7 [(0, .ref (ad 0)), (1, .int (nI rws)), (2, .int (nI rs)), (3, .int (nI M)), (4, .int (nI st))] := hl
  obtain ⟨S, eS⟩ : ∃ S, S = 2 ^ M := ⟨_, rfl⟩
  obtain ⟨hS0, hS1⟩ := pow_in eS eM
  refine lv_iconst (v := nI 1) hx hb d_M_weighSets_0 (by decide) ?_
  refine lv_iload_n hx hb d_M_weighSets_1 rfl (lv_at hl 3 rfl) ?_
  refine lv_ishl hx hb d_M_weighSets_2 ?_
  refine nv_topi (y := nI S) (by rw [eS]; exact shl1 M (by omega)) ?_
  refine lv_istore (lv' := [(5, .int (nI S)), (0, .ref (ad 0)), (1, .int (nI rws)), (2, .int (nI rs)), (3, .int (nI M)), (4, .int (nI st))]) hx hb d_M_weighSets_3 hl (by decide) rfl (fun ls hl => ?_)
  refine lv_iconst (v := nI 0) hx hb d_M_weighSets_5 (by decide) ?_
  refine lv_istore (lv' := [(6, .int (nI 0)), (5, .int (nI S)), (0, .ref (ad 0)), (1, .int (nI rws)), (2, .int (nI rs)), (3, .int (nI M)), (4, .int (nI st))]) hx hb d_M_weighSets_6 hl (by decide) rfl (fun ls hl => ?_)
  have L8 : ∀ (n8 : Nat) (i : Nat), S - i < n8 → i ≤ S → ∀ (H : Heap) (locs : List Loc), va_P D cls (fl [(wM kC ad sh (zeroF be i) ob os oc ar gi pg ag pn an prn tot)]) H → va_D A (fl [(wM kC ad sh (zeroF be i) ob os oc ar gi pg ag pn an prn tot)]) → va_S A s.heap H locs → ∀ (ls : Array Slot), lv_has ls 7 [(0, .ref (ad 0)), (1, .int (nI rws)), (2, .int (nI rs)), (3, .int (nI M)), (4, .int (nI st)), (5, .int (nI S)), (6, .int (nI i))] → W p l e (headSpec w_M_weighSets ({ frames := 2, cells := 0, slots := 0, locals := 41 } : Room)).room s m ([.ref (ad 0), .int (nI rws), .int (nI rs), .int (nI M), .int (nI st)] : List Value).toArray below meth c H locs 0 0 (MQ below (gQv cls D (tyL kC) (fl [(wM kC ad sh be ob os oc ar gi pg ag pn an prn tot)]) s.heap.size (fl [(wM kC ad sh (wsB sh rs st M (2 ^ M) be os rws) (wsOb sh rs st M ob rws) (wsOs sh rs st M os rws) (wsOc sh rs st M oc rws) ar gi pg ag pn an prn tot)])) ([.ref (ad 0), .int (nI rws), .int (nI rs), .int (nI M), .int (nI st)] : List Value).toArray s 0 0 (va_A (fl [(wM kC ad sh be ob os oc ar gi pg ag pn an prn tot)]) s.heap.size)) (F0 m 8 ls []) := by
    intro n8
    induction n8 with
    | zero =>
      intro i hm
      exact absurd hm (Nat.not_lt_zero _)
    | succ n8 ih8 =>
      intro i hm hiS H locs hP hD hS ls hl
      refine lv_iload hx hb d_M_weighSets_8 (lv_at hl 6 rfl) ?_
      refine lv_iload hx hb d_M_weighSets_10 (lv_at hl 5 rfl) ?_
      refine nv_icmp_ge (tgt := 29) hx hb d_M_weighSets_12 (by decide) (by omega) (by omega) (fun hi => ?_) (fun hi => ?_)
      · obtain rfl : S = i := by omega
        refine lv_iconst (v := nI 0) hx hb d_M_weighSets_29 (by decide) ?_
        refine lv_istore (lv' := [(6, .int (nI 0)), (0, .ref (ad 0)), (1, .int (nI rws)), (2, .int (nI rs)), (3, .int (nI M)), (4, .int (nI st)), (5, .int (nI S))]) hx hb d_M_weighSets_30 hl (by decide) rfl (fun ls hl => ?_)
        have L32 : ∀ (n32 : Nat) (r : Nat), rws - r < n32 → r ≤ rws → ∀ (H : Heap) (locs : List Loc), va_P D cls (fl [(wM kC ad sh (wsB sh rs st M S be os r) (wsOb sh rs st M ob r) (wsOs sh rs st M os r) (wsOc sh rs st M oc r) ar gi pg ag pn an prn tot)]) H → va_D A (fl [(wM kC ad sh (wsB sh rs st M S be os r) (wsOb sh rs st M ob r) (wsOs sh rs st M os r) (wsOc sh rs st M oc r) ar gi pg ag pn an prn tot)]) → va_S A s.heap H locs → ∀ (ls : Array Slot), lv_has ls 7 [(0, .ref (ad 0)), (1, .int (nI rws)), (2, .int (nI rs)), (3, .int (nI M)), (4, .int (nI st)), (5, .int (nI S)), (6, .int (nI r))] → W p l e (headSpec w_M_weighSets ({ frames := 2, cells := 0, slots := 0, locals := 41 } : Room)).room s m ([.ref (ad 0), .int (nI rws), .int (nI rs), .int (nI M), .int (nI st)] : List Value).toArray below meth c H locs 0 0 (MQ below (gQv cls D (tyL kC) (fl [(wM kC ad sh be ob os oc ar gi pg ag pn an prn tot)]) s.heap.size (fl [(wM kC ad sh (wsB sh rs st M (2 ^ M) be os rws) (wsOb sh rs st M ob rws) (wsOs sh rs st M os rws) (wsOc sh rs st M oc rws) ar gi pg ag pn an prn tot)])) ([.ref (ad 0), .int (nI rws), .int (nI rs), .int (nI M), .int (nI st)] : List Value).toArray s 0 0 (va_A (fl [(wM kC ad sh be ob os oc ar gi pg ag pn an prn tot)]) s.heap.size)) (F0 m 32 ls []) := by
          intro n32
          induction n32 with
          | zero =>
            intro r hm
            exact absurd hm (Nat.not_lt_zero _)
          | succ n32 ih32 =>
            intro r hm hrr H locs hP hD hS ls hl
            refine lv_iload hx hb d_M_weighSets_32 (lv_at hl 6 rfl) ?_
            refine lv_iload_n hx hb d_M_weighSets_34 rfl (lv_at hl 1 rfl) ?_
            refine nv_icmp_ge (tgt := 68) hx hb d_M_weighSets_35 (by decide) (by omega) (by omega) (fun hr8 => ?_) (fun hr8 => ?_)
            · obtain rfl : rws = r := by omega
              subst eS
              exact W.vret hx hb hr (fun t ht hW => by subst hAe; exact ⟨⟨(), rfl, trivial, by rw [ht]; exact hP, va_K.moved hW.alike hK, hD⟩, hS.F ht⟩) (by subst hAe; exact hS.2.2) d_M_weighSets_68
            · refine lv_aload_n hx hb d_M_weighSets_38 rfl (lv_at hl 0 rfl) ?_
              refine lv_iload hx hb d_M_weighSets_39 (lv_at hl 6 rfl) ?_
              refine lv_iload_n hx hb d_M_weighSets_41 rfl (lv_at hl 2 rfl) ?_
              refine nv_imul hx hb d_M_weighSets_42 ?_
              refine lv_iload_n hx hb d_M_weighSets_43 rfl (lv_at hl 3 rfl) ?_
              refine lv_iload hx hb d_M_weighSets_44 (lv_at hl 4 rfl) ?_
              refine g_callvA (va_runV (As := [.int (nI (r * rs)), .int (nI M), .int (nI st)]) (rest := []) ⟨hx, hb, hml, hown, hts⟩ (c_M_coll l D kC ad sh (wsB sh rs st M S be os r) (wsOb sh rs st M ob r) (wsOs sh rs st M os r) (wsOc sh rs st M oc r) ar gi pg ag pn an prn tot (r * rs) M st (H).size (eM) (hix r hr8)) (cwV 3 hts g_M_weigh_coll rfl rfl rfl (by decide +kernel) ⟨Nat.le_of_ble_eq_true rfl, Nat.le_of_ble_eq_true rfl⟩) (g_preV (f_recv (ci := 3) (q0 := 0) hK hP 0 rfl rfl rfl) hK hP hD) rfl rfl hl.1 rfl (lv_room (Nat.le_of_ble_eq_true rfl)) d_M_weighSets_46 ⟨Nat.le_of_ble_eq_true rfl, Nat.le_of_ble_eq_true rfl⟩) hS hA hD (fun H locs hP hD hS => ?_)
              refine W.cs (cells' := 0) (slots' := 0) rfl rfl ?_
              have hP : va_P D cls (fl [(wM kC ad sh (wsB sh rs st M S be os r) (coB sh (r * rs) st (wsOb sh rs st M ob r) M) (coS sh (r * rs) st (wsOs sh rs st M os r) M) (coC sh (r * rs) st M) ar gi pg ag pn an prn tot)]) H := hP
              have hD : va_D A (fl [(wM kC ad sh (wsB sh rs st M S be os r) (coB sh (r * rs) st (wsOb sh rs st M ob r) M) (coS sh (r * rs) st (wsOs sh rs st M os r) M) (coC sh (r * rs) st M) ar gi pg ag pn an prn tot)]) := hD
              refine lv_aload_n hx hb d_M_weighSets_49 rfl (lv_at hl 0 rfl) ?_
              refine fv_get (ci := 3) (v := .int (nI (coC sh (r * rs) st M))) (C := R_M) (T := F_M) (N := 13) hx hb hts (by decide +kernel) hown hK hP 0 0 rfl rfl rfl 4 (by decide) (hts (.fieldLink R_M 25 "PartShelves$Matching" "optionCount" "I") (by decide +kernel)) (fun _ h9 => h9) rfl d_M_weighSets_50 ?_
              refine nv_if_le (tgt := 62) hx hb d_M_weighSets_53 (by decide) (Nat.lt_of_le_of_lt (coC_le _ _ _ _) (by omega)) (fun hc0 => ?_) (fun hc0 => ?_)
              · refine lv_iinc (v := nI (r + 1)) (lv' := [(6, .int (nI (r + 1))), (0, .ref (ad 0)), (1, .int (nI rws)), (2, .int (nI rs)), (3, .int (nI M)), (4, .int (nI st)), (5, .int (nI S))]) hx hb d_M_weighSets_62 hl (k := 6) rfl (nI_1 r) (by decide) rfl (fun ls hl => ?_)
                refine lv_goto (tgt := 32) hx hb d_M_weighSets_65 (by decide) ?_
                have ew1 : (wsB sh rs st M S be os r) = (wsB sh rs st M S be os (r + 1)) := wsB_skip hc0
                have hP : va_P D cls (fl [(wM kC ad sh (wsB sh rs st M S be os (r + 1)) (coB sh (r * rs) st (wsOb sh rs st M ob r) M) (coS sh (r * rs) st (wsOs sh rs st M os r) M) (coC sh (r * rs) st M) ar gi pg ag pn an prn tot)]) H := by rw [← ew1]; exact hP
                have hD : va_D A (fl [(wM kC ad sh (wsB sh rs st M S be os (r + 1)) (coB sh (r * rs) st (wsOb sh rs st M ob r) M) (coS sh (r * rs) st (wsOs sh rs st M os r) M) (coC sh (r * rs) st M) ar gi pg ag pn an prn tot)]) := by rw [← ew1]; exact hD
                exact ih32 (r + 1) (by omega) (hr8) _ _ hP hD hS ls (lv_sub hl [1, 2, 3, 4, 5, 6, 0] rfl)
              · refine lv_aload_n hx hb d_M_weighSets_56 rfl (lv_at hl 0 rfl) ?_
                refine lv_iload hx hb d_M_weighSets_57 (lv_at hl 5 rfl) ?_
                refine g_callvA (va_runV (As := [.int (nI S)]) (rest := []) ⟨hx, hb, hml, hown, hts⟩ (c_M_addRow l D kC ad sh (wsB sh rs st M S be os r) (coB sh (r * rs) st (wsOb sh rs st M ob r) M) (coS sh (r * rs) st (wsOs sh rs st M os r) M) (coC sh (r * rs) st M) ar gi pg ag pn an prn tot S M (coT sh (r * rs) st M) (H).size (eS) (eM) (Nat.le_trans (coC_le _ _ _ _) eM) (fun i hi => coB_T sh (r * rs) st _ M i hi)) (cwV 1 hts g_M_weigh_add rfl rfl rfl (by decide +kernel) ⟨Nat.le_of_ble_eq_true rfl, Nat.le_of_ble_eq_true rfl⟩) (g_preV (f_recv (ci := 3) (q0 := 0) hK hP 0 rfl rfl rfl) hK hP hD) rfl rfl hl.1 rfl (lv_room (Nat.le_of_ble_eq_true rfl)) d_M_weighSets_59 ⟨Nat.le_of_ble_eq_true rfl, Nat.le_of_ble_eq_true rfl⟩) hS hA hD (fun H locs hP hD hS => ?_)
                refine W.cs (cells' := 0) (slots' := 0) rfl rfl ?_
                have hP : va_P D cls (fl [(wM kC ad sh (addRowF (wsB sh rs st M S be os r) (coS sh (r * rs) st (wsOs sh rs st M os r) M) (coT sh (r * rs) st M) (coC sh (r * rs) st M) S 0) (coB sh (r * rs) st (wsOb sh rs st M ob r) M) (coS sh (r * rs) st (wsOs sh rs st M os r) M) (coC sh (r * rs) st M) ar gi pg ag pn an prn tot)]) H := hP
                have hD : va_D A (fl [(wM kC ad sh (addRowF (wsB sh rs st M S be os r) (coS sh (r * rs) st (wsOs sh rs st M os r) M) (coT sh (r * rs) st M) (coC sh (r * rs) st M) S 0) (coB sh (r * rs) st (wsOb sh rs st M ob r) M) (coS sh (r * rs) st (wsOs sh rs st M os r) M) (coC sh (r * rs) st M) ar gi pg ag pn an prn tot)]) := hD
                refine lv_iinc (v := nI (r + 1)) (lv' := [(6, .int (nI (r + 1))), (0, .ref (ad 0)), (1, .int (nI rws)), (2, .int (nI rs)), (3, .int (nI M)), (4, .int (nI st)), (5, .int (nI S))]) hx hb d_M_weighSets_62 hl (k := 6) rfl (nI_1 r) (by decide) rfl (fun ls hl => ?_)
                refine lv_goto (tgt := 32) hx hb d_M_weighSets_65 (by decide) ?_
                exact ih32 (r + 1) (by omega) (hr8) _ _ hP hD hS ls (lv_sub hl [1, 2, 3, 4, 5, 6, 0] rfl)
        exact L32 _ 0 (Nat.lt_succ_self _) (Nat.zero_le _) _ _ hP hD hS ls (lv_sub hl [1, 2, 3, 4, 5, 6, 0] rfl)
      · refine lv_aload_n hx hb d_M_weighSets_15 rfl (lv_at hl 0 rfl) ?_
        refine fv_get (ci := 3) (v := .ref (ad 2)) (C := R_M) (T := F_M) (N := 13) hx hb hts (by decide +kernel) hown hK hP 0 0 rfl rfl rfl 1 (by decide) (hts (.fieldLink R_M 15 "PartShelves$Matching" "best" "[J") (by decide +kernel)) (fun _ h9 => h9) rfl d_M_weighSets_16 ?_
        refine lv_iload hx hb d_M_weighSets_19 (lv_at hl 6 rfl) ?_
        refine lv_lconst (v := lN 0) hx hb d_M_weighSets_21 (by decide) ?_
        refine fa_last hx hb hK hP hD hS 0 2 1 rfl rfl rfl (by omega) (by decide) d_M_weighSets_22 (fun H locs hP hD hS => ?_)
        have hP : va_P D cls (fl [(wM kC ad sh (vp_updL (zeroF be i) i (lN 0)) ob os oc ar gi pg ag pn an prn tot)]) H := hP
        have hD : va_D A (fl [(wM kC ad sh (vp_updL (zeroF be i) i (lN 0)) ob os oc ar gi pg ag pn an prn tot)]) := hD
        refine lv_iinc (v := nI (i + 1)) (lv' := [(6, .int (nI (i + 1))), (0, .ref (ad 0)), (1, .int (nI rws)), (2, .int (nI rs)), (3, .int (nI M)), (4, .int (nI st)), (5, .int (nI S))]) hx hb d_M_weighSets_23 hl (k := 6) rfl (nI_1 i) (by decide) rfl (fun ls hl => ?_)
        refine lv_goto (tgt := 8) hx hb d_M_weighSets_26 (by decide) ?_
        have ew2 : (vp_updL (zeroF be i) i (lN 0)) = (zeroF be (i + 1)) := zeroF_s be i
        have hP : va_P D cls (fl [(wM kC ad sh (zeroF be (i + 1)) ob os oc ar gi pg ag pn an prn tot)]) H := by rw [← ew2]; exact hP
        have hD : va_D A (fl [(wM kC ad sh (zeroF be (i + 1)) ob os oc ar gi pg ag pn an prn tot)]) := by rw [← ew2]; exact hD
        exact ih8 (i + 1) (by omega) (hi) _ _ hP hD hS ls (lv_sub hl [1, 2, 3, 4, 5, 6, 0] rfl)
  have ew3 : be = (zeroF be 0) := (zeroF_0 be).symm
  have hP : va_P D cls (fl [(wM kC ad sh (zeroF be 0) ob os oc ar gi pg ag pn an prn tot)]) s.heap := by rw [← ew3]; exact hP
  have hD : va_D A (fl [(wM kC ad sh (zeroF be 0) ob os oc ar gi pg ag pn an prn tot)]) := by rw [← ew3]; exact hD
  exact L8 _ 0 (Nat.lt_succ_self _) (Nat.zero_le _) _ _ hP hD hS ls (lv_sub hl [2, 3, 4, 5, 6, 1, 0] rfl)
end
section
abbrev b_M_turnWorthsIntoShares : ByteArray := prog_4_method_9_code
def y_M_turnWorthsIntoShares : MethodName := ⟨"PartShelves$Matching", "turnWorthsIntoShares", "()V"⟩
theorem d_M_turnWorthsIntoShares_0 : decode b_M_turnWorthsIntoShares 0 = .ok (.lconst 1, 1) := by decide +kernel
theorem d_M_turnWorthsIntoShares_1 : decode b_M_turnWorthsIntoShares 1 = .ok (.lstore_n 1, 1) := by decide +kernel
theorem d_M_turnWorthsIntoShares_2 : decode b_M_turnWorthsIntoShares 2 = .ok (.aload_n 0, 1) := by decide +kernel
theorem d_M_turnWorthsIntoShares_3 : decode b_M_turnWorthsIntoShares 3 = .ok (.getfield 44, 3) := by decide +kernel
theorem d_M_turnWorthsIntoShares_6 : decode b_M_turnWorthsIntoShares 6 = .ok (.iconst 1, 1) := by decide +kernel
theorem d_M_turnWorthsIntoShares_7 : decode b_M_turnWorthsIntoShares 7 = .ok (.isub, 1) := by decide +kernel
theorem d_M_turnWorthsIntoShares_8 : decode b_M_turnWorthsIntoShares 8 = .ok (.istore_n 3, 1) := by decide +kernel
theorem d_M_turnWorthsIntoShares_9 : decode b_M_turnWorthsIntoShares 9 = .ok (.iload_n 3, 1) := by decide +kernel
theorem d_M_turnWorthsIntoShares_10 : decode b_M_turnWorthsIntoShares 10 = .ok (.ifCond .lt 90, 3) := by decide +kernel
theorem d_M_turnWorthsIntoShares_13 : decode b_M_turnWorthsIntoShares 13 = .ok (.aload_n 0, 1) := by decide +kernel
theorem d_M_turnWorthsIntoShares_14 : decode b_M_turnWorthsIntoShares 14 = .ok (.getfield 29, 3) := by decide +kernel
theorem d_M_turnWorthsIntoShares_17 : decode b_M_turnWorthsIntoShares 17 = .ok (.iload_n 3, 1) := by decide +kernel
theorem d_M_turnWorthsIntoShares_18 : decode b_M_turnWorthsIntoShares 18 = .ok (.iaload, 1) := by decide +kernel
theorem d_M_turnWorthsIntoShares_19 : decode b_M_turnWorthsIntoShares 19 = .ok (.bipush 8, 2) := by decide +kernel
theorem d_M_turnWorthsIntoShares_21 : decode b_M_turnWorthsIntoShares 21 = .ok (.imul, 1) := by decide +kernel
theorem d_M_turnWorthsIntoShares_22 : decode b_M_turnWorthsIntoShares 22 = .ok (.istore 4, 2) := by decide +kernel
theorem d_M_turnWorthsIntoShares_24 : decode b_M_turnWorthsIntoShares 24 = .ok (.iconst 0, 1) := by decide +kernel
theorem d_M_turnWorthsIntoShares_25 : decode b_M_turnWorthsIntoShares 25 = .ok (.istore 5, 2) := by decide +kernel
theorem d_M_turnWorthsIntoShares_27 : decode b_M_turnWorthsIntoShares 27 = .ok (.iload 5, 2) := by decide +kernel
theorem d_M_turnWorthsIntoShares_29 : decode b_M_turnWorthsIntoShares 29 = .ok (.aload_n 0, 1) := by decide +kernel
theorem d_M_turnWorthsIntoShares_30 : decode b_M_turnWorthsIntoShares 30 = .ok (.getfield 41, 3) := by decide +kernel
theorem d_M_turnWorthsIntoShares_33 : decode b_M_turnWorthsIntoShares 33 = .ok (.if_icmp .ge 55, 3) := by decide +kernel
theorem d_M_turnWorthsIntoShares_36 : decode b_M_turnWorthsIntoShares 36 = .ok (.aload_n 0, 1) := by decide +kernel
theorem d_M_turnWorthsIntoShares_37 : decode b_M_turnWorthsIntoShares 37 = .ok (.getfield 9, 3) := by decide +kernel
theorem d_M_turnWorthsIntoShares_40 : decode b_M_turnWorthsIntoShares 40 = .ok (.iload 4, 2) := by decide +kernel
theorem d_M_turnWorthsIntoShares_42 : decode b_M_turnWorthsIntoShares 42 = .ok (.iload 5, 2) := by decide +kernel
theorem d_M_turnWorthsIntoShares_44 : decode b_M_turnWorthsIntoShares 44 = .ok (.iadd, 1) := by decide +kernel
theorem d_M_turnWorthsIntoShares_45 : decode b_M_turnWorthsIntoShares 45 = .ok (.laload, 1) := by decide +kernel
theorem d_M_turnWorthsIntoShares_46 : decode b_M_turnWorthsIntoShares 46 = .ok (.lstore 6, 2) := by decide +kernel
theorem d_M_turnWorthsIntoShares_48 : decode b_M_turnWorthsIntoShares 48 = .ok (.lload 6, 2) := by decide +kernel
theorem d_M_turnWorthsIntoShares_50 : decode b_M_turnWorthsIntoShares 50 = .ok (.ldc2_w 50, 3) := by decide +kernel
theorem d_M_turnWorthsIntoShares_53 : decode b_M_turnWorthsIntoShares 53 = .ok (.lcmp, 1) := by decide +kernel
theorem d_M_turnWorthsIntoShares_54 : decode b_M_turnWorthsIntoShares 54 = .ok (.ifCond .eq 28, 3) := by decide +kernel
theorem d_M_turnWorthsIntoShares_57 : decode b_M_turnWorthsIntoShares 57 = .ok (.aload_n 0, 1) := by decide +kernel
theorem d_M_turnWorthsIntoShares_58 : decode b_M_turnWorthsIntoShares 58 = .ok (.getfield 9, 3) := by decide +kernel
theorem d_M_turnWorthsIntoShares_61 : decode b_M_turnWorthsIntoShares 61 = .ok (.iload 4, 2) := by decide +kernel
theorem d_M_turnWorthsIntoShares_63 : decode b_M_turnWorthsIntoShares 63 = .ok (.iload 5, 2) := by decide +kernel
theorem d_M_turnWorthsIntoShares_65 : decode b_M_turnWorthsIntoShares 65 = .ok (.iadd, 1) := by decide +kernel
theorem d_M_turnWorthsIntoShares_66 : decode b_M_turnWorthsIntoShares 66 = .ok (.lload 6, 2) := by decide +kernel
theorem d_M_turnWorthsIntoShares_68 : decode b_M_turnWorthsIntoShares 68 = .ok (.ldc2_w 63, 3) := by decide +kernel
theorem d_M_turnWorthsIntoShares_71 : decode b_M_turnWorthsIntoShares 71 = .ok (.lmul, 1) := by decide +kernel
theorem d_M_turnWorthsIntoShares_72 : decode b_M_turnWorthsIntoShares 72 = .ok (.bipush 8, 2) := by decide +kernel
theorem d_M_turnWorthsIntoShares_74 : decode b_M_turnWorthsIntoShares 74 = .ok (.iload 5, 2) := by decide +kernel
theorem d_M_turnWorthsIntoShares_76 : decode b_M_turnWorthsIntoShares 76 = .ok (.isub, 1) := by decide +kernel
theorem d_M_turnWorthsIntoShares_77 : decode b_M_turnWorthsIntoShares 77 = .ok (.i2l, 1) := by decide +kernel
theorem d_M_turnWorthsIntoShares_78 : decode b_M_turnWorthsIntoShares 78 = .ok (.lload_n 1, 1) := by decide +kernel
theorem d_M_turnWorthsIntoShares_79 : decode b_M_turnWorthsIntoShares 79 = .ok (.lmul, 1) := by decide +kernel
theorem d_M_turnWorthsIntoShares_80 : decode b_M_turnWorthsIntoShares 80 = .ok (.ladd, 1) := by decide +kernel
theorem d_M_turnWorthsIntoShares_81 : decode b_M_turnWorthsIntoShares 81 = .ok (.lastore, 1) := by decide +kernel
theorem d_M_turnWorthsIntoShares_82 : decode b_M_turnWorthsIntoShares 82 = .ok (.iinc 5 1, 3) := by decide +kernel
theorem d_M_turnWorthsIntoShares_85 : decode b_M_turnWorthsIntoShares 85 = .ok (.goto (-58), 3) := by decide +kernel
theorem d_M_turnWorthsIntoShares_88 : decode b_M_turnWorthsIntoShares 88 = .ok (.lload_n 1, 1) := by decide +kernel
theorem d_M_turnWorthsIntoShares_89 : decode b_M_turnWorthsIntoShares 89 = .ok (.ldc2_w 73, 3) := by decide +kernel
theorem d_M_turnWorthsIntoShares_92 : decode b_M_turnWorthsIntoShares 92 = .ok (.lmul, 1) := by decide +kernel
theorem d_M_turnWorthsIntoShares_93 : decode b_M_turnWorthsIntoShares 93 = .ok (.lstore_n 1, 1) := by decide +kernel
theorem d_M_turnWorthsIntoShares_94 : decode b_M_turnWorthsIntoShares 94 = .ok (.iinc 3 (-1), 3) := by decide +kernel
theorem d_M_turnWorthsIntoShares_97 : decode b_M_turnWorthsIntoShares 97 = .ok (.goto (-88), 3) := by decide +kernel
theorem d_M_turnWorthsIntoShares_100 : decode b_M_turnWorthsIntoShares 100 = .ok (.return_, 1) := by decide +kernel
def w_M_turnWorthsIntoShares : List Cond := .code y_M_turnWorthsIntoShares b_M_turnWorthsIntoShares 8 none :: ([.fieldLink "PartShelves$Matching" 44 "PartShelves$Matching" "askCount" "I", .fieldLink "PartShelves$Matching" 29 "PartShelves$Matching" "askByRank" "[I", .fieldLink "PartShelves$Matching" 41 "PartShelves$Matching" "partCount" "I", .fieldLink "PartShelves$Matching" 9 "PartShelves$Matching" "shares" "[J", .constantLong "PartShelves$Matching" 50 (-1), .constantLong "PartShelves$Matching" 63 43046721, .constantLong "PartShelves$Matching" 73 9] ++ u_ws R_M F_M 13)
set_option maxHeartbeats 4000000 in
set_option maxRecDepth 100000 in
theorem c_M_turn (l : Launch) (D : va_G) (kC : Nat → ClassId) (ad : Nat → Nat) (sh : Nat → Int64) (be : Nat → Int64) (ob : Nat → Int32) (os : Nat → Int64) (oc : Nat) (ar : Nat → Int32) (gi : Nat → Int32) (pg : Nat → Int64) (ag : Nat → Int64) (pn : Nat) (an : Nat) (prn : Nat) (tot : Int64) (arN : Nat → Nat) (sz : Nat) (h8p : pn ≤ 8) (h8a : an ≤ 8) (har : ∀ r, r < an → ar r = nI (arN r) ∧ arN r < 8) : Met l y_M_turnWorthsIntoShares w_M_turnWorthsIntoShares ({ frames := 0, cells := 0, slots := 0, locals := 0 } : Room) (gPre cls D (tyL kC) [.ref (ad 0)] (fl [(wM kC ad sh be ob os oc ar gi pg ag pn an prn tot)]) sz) (gQv cls D (tyL kC) (fl [(wM kC ad sh be ob os oc ar gi pg ag pn an prn tot)]) sz (fl [(wM kC ad (turnF arN pn an sh (lN 1)) be ob os oc ar gi pg ag pn an prn tot)])) 0 0 (va_A (fl [(wM kC ad sh be ob os oc ar gi pg ag pn an prn tot)]) sz) := by
  refine Met.ofW (cc := b_M_turnWorthsIntoShares) (maxL := 8) (ret := none) (by decide) rfl ?_
  intro p e s m args below meth c s₁ B hml hv
  obtain ⟨rfl, hsz, hP, hK, hD0⟩ := hv
  have hx := B.exec
  have hb := B.bytes
  have hr := B.returns
  have hts := atoms_spec (ws := w_M_turnWorthsIntoShares) B.pre
  have hown : s.vm.findClass R_M = some m.cls := findClass_of_methodNamed B.named
  have hlocks := B.notSynchronized
  subst hsz
  obtain ⟨A, hAe⟩ : ∃ A : Nat → Prop, A = va_A (fl [(wM kC ad sh be ob os oc ar gi pg ag pn an prn tot)]) s.heap.size := ⟨_, rfl⟩
  have hD : va_D A (fl [(wM kC ad sh be ob os oc ar gi pg ag pn an prn tot)]) := by rw [hAe]; exact hD0.self
  have hA : ∀ q : Nat, s.heap.size ≤ q → A q := fun q h => by rw [hAe]; exact Or.inr h
  have hS : va_S A s.heap s.heap [] := va_S.rf
  have hl := lv_entry ([.ref (ad 0)]) (n := 8) (Nat.le_of_ble_eq_true rfl)
  rw [lg_entry_eq]
  generalize (lg_sl ([.ref (ad 0)]) ++ List.replicate (8 - (lg_sl ([.ref (ad 0)])).length) Slot.unset).toArray = ls at hl ⊢
  have hl : lv_has ls 8 [(0, .ref (ad 0))] := hl
  refine lv_lconst (v := lN 1) hx hb d_M_turnWorthsIntoShares_0 (by decide) ?_
  refine lv_lstore_n (lv' := [(1, .long (lN 1)), (0, .ref (ad 0))]) hx hb d_M_turnWorthsIntoShares_1 rfl hl (by decide) rfl (fun ls hl => ?_)
  refine lv_aload_n hx hb d_M_turnWorthsIntoShares_2 rfl (lv_at hl 1 rfl) ?_
  refine fv_get (ci := 3) (v := .int (nI an)) (C := R_M) (T := F_M) (N := 13) hx hb hts (by decide +kernel) hown hK hP 0 0 rfl rfl rfl 10 (by decide) (hts (.fieldLink R_M 44 "PartShelves$Matching" "askCount" "I") (by decide +kernel)) (fun _ h9 => h9) rfl d_M_turnWorthsIntoShares_3 ?_
  refine lv_iconst (v := nI 1) hx hb d_M_turnWorthsIntoShares_6 (by decide) ?_
  refine lv_isub hx hb d_M_turnWorthsIntoShares_7 ?_
  refine lv_istore_n (lv' := [(3, .int ((nI an) - (nI 1))), (1, .long (lN 1)), (0, .ref (ad 0))]) hx hb d_M_turnWorthsIntoShares_8 rfl hl (by decide) rfl (fun ls hl => ?_)
  have L9 : ∀ (n9 : Nat) (k : Nat) (shc : Nat → Int64) (pl : Int64), k < n9 → k ≤ an → turnF arN pn k shc pl = turnF arN pn an sh (lN 1) → ∀ (H : Heap) (locs : List Loc), va_P D cls (fl [(wM kC ad shc be ob os oc ar gi pg ag pn an prn tot)]) H → va_D A (fl [(wM kC ad shc be ob os oc ar gi pg ag pn an prn tot)]) → va_S A s.heap H locs → ∀ (ls : Array Slot), lv_has ls 8 [(0, .ref (ad 0)), (1, .long pl), (3, .int (nI k - nI 1))] → W p l e (headSpec w_M_turnWorthsIntoShares ({ frames := 0, cells := 0, slots := 0, locals := 0 } : Room)).room s m ([.ref (ad 0)] : List Value).toArray below meth c H locs 0 0 (MQ below (gQv cls D (tyL kC) (fl [(wM kC ad sh be ob os oc ar gi pg ag pn an prn tot)]) s.heap.size (fl [(wM kC ad (turnF arN pn an sh (lN 1)) be ob os oc ar gi pg ag pn an prn tot)])) ([.ref (ad 0)] : List Value).toArray s 0 0 (va_A (fl [(wM kC ad sh be ob os oc ar gi pg ag pn an prn tot)]) s.heap.size)) (F0 m 9 ls []) := by
    intro n9
    induction n9 with
    | zero =>
      intro k shc pl hm
      exact absurd hm (Nat.not_lt_zero _)
    | succ n9 ih9 =>
      intro k shc pl hm hka hT H locs hP hD hS ls hl
      refine lv_iload_n hx hb d_M_turnWorthsIntoShares_9 rfl (lv_at hl 2 rfl) ?_
      refine lv_if_lt (tgt := 100) hx hb d_M_turnWorthsIntoShares_10 (by decide) (fun hk => ?_) (fun hk => ?_)
      · obtain rfl : k = 0 := (rk_neg (by omega)).mp hk
        have ew1 : shc = (turnF arN pn an sh (lN 1)) := hT
        have hP : va_P D cls (fl [(wM kC ad (turnF arN pn an sh (lN 1)) be ob os oc ar gi pg ag pn an prn tot)]) H := by rw [← ew1]; exact hP
        have hD : va_D A (fl [(wM kC ad (turnF arN pn an sh (lN 1)) be ob os oc ar gi pg ag pn an prn tot)]) := by rw [← ew1]; exact hD
        exact W.vret hx hb hr (fun t ht hW => by subst hAe; exact ⟨⟨(), rfl, trivial, by rw [ht]; exact hP, va_K.moved hW.alike hK, hD⟩, hS.F ht⟩) (by subst hAe; exact hS.2.2) d_M_turnWorthsIntoShares_100
      · obtain ⟨j, rfl⟩ := rk_pos (by omega) hk
        have el2 : nI (j + 1) - nI 1 = nI j := nI_pred j
        have hl : lv_has ls 8 [(0, .ref (ad 0)), (1, .long pl), (3, .int (nI j))] := by rw [← el2]; exact hl
        obtain ⟨ha1, ha2⟩ := har j (by omega)
        refine lv_aload_n hx hb d_M_turnWorthsIntoShares_13 rfl (lv_at hl 0 rfl) ?_
        refine fv_get (ci := 3) (v := .ref (ad 5)) (C := R_M) (T := F_M) (N := 13) hx hb hts (by decide +kernel) hown hK hP 0 0 rfl rfl rfl 5 (by decide) (hts (.fieldLink R_M 29 "PartShelves$Matching" "askByRank" "[I") (by decide +kernel)) (fun _ h9 => h9) rfl d_M_turnWorthsIntoShares_14 ?_
        refine lv_iload_n hx hb d_M_turnWorthsIntoShares_17 rfl (lv_at hl 2 rfl) ?_
        refine fa_iald hx hb hK hP 0 5 0 rfl rfl rfl (by omega) (by decide) d_M_turnWorthsIntoShares_18 ?_
        refine nv_topi (y := nI (arN j)) (ha1) ?_
        refine lv_bipush (v := nI 8) hx hb d_M_turnWorthsIntoShares_19 (by decide +kernel) ?_
        refine nv_imul hx hb d_M_turnWorthsIntoShares_21 ?_
        refine lv_istore (lv' := [(4, .int (nI ((arN j) * 8))), (0, .ref (ad 0)), (1, .long pl), (3, .int (nI j))]) hx hb d_M_turnWorthsIntoShares_22 hl (by decide) rfl (fun ls hl => ?_)
        refine lv_iconst (v := nI 0) hx hb d_M_turnWorthsIntoShares_24 (by decide) ?_
        refine lv_istore (lv' := [(5, .int (nI 0)), (4, .int (nI ((arN j) * 8))), (0, .ref (ad 0)), (1, .long pl), (3, .int (nI j))]) hx hb d_M_turnWorthsIntoShares_25 hl (by decide) rfl (fun ls hl => ?_)
        have L27 : ∀ (n27 : Nat) (i : Nat), pn - i < n27 → i ≤ pn → ∀ (H : Heap) (locs : List Loc), va_P D cls (fl [(wM kC ad (turnRow (arN j) pl shc i) be ob os oc ar gi pg ag pn an prn tot)]) H → va_D A (fl [(wM kC ad (turnRow (arN j) pl shc i) be ob os oc ar gi pg ag pn an prn tot)]) → va_S A s.heap H locs → ∀ (ls : Array Slot), lv_has ls 8 [(0, .ref (ad 0)), (1, .long pl), (3, .int (nI j)), (4, .int (nI (arN j * 8))), (5, .int (nI i))] → W p l e (headSpec w_M_turnWorthsIntoShares ({ frames := 0, cells := 0, slots := 0, locals := 0 } : Room)).room s m ([.ref (ad 0)] : List Value).toArray below meth c H locs 0 0 (MQ below (gQv cls D (tyL kC) (fl [(wM kC ad sh be ob os oc ar gi pg ag pn an prn tot)]) s.heap.size (fl [(wM kC ad (turnF arN pn an sh (lN 1)) be ob os oc ar gi pg ag pn an prn tot)])) ([.ref (ad 0)] : List Value).toArray s 0 0 (va_A (fl [(wM kC ad sh be ob os oc ar gi pg ag pn an prn tot)]) s.heap.size)) (F0 m 27 ls []) := by
          intro n27
          induction n27 with
          | zero =>
            intro i hm
            exact absurd hm (Nat.not_lt_zero _)
          | succ n27 ih27 =>
            intro i hm hip H locs hP hD hS ls hl
            refine lv_iload hx hb d_M_turnWorthsIntoShares_27 (lv_at hl 4 rfl) ?_
            refine lv_aload_n hx hb d_M_turnWorthsIntoShares_29 rfl (lv_at hl 0 rfl) ?_
            refine fv_get (ci := 3) (v := .int (nI pn)) (C := R_M) (T := F_M) (N := 13) hx hb hts (by decide +kernel) hown hK hP 0 0 rfl rfl rfl 9 (by decide) (hts (.fieldLink R_M 41 "PartShelves$Matching" "partCount" "I") (by decide +kernel)) (fun _ h9 => h9) rfl d_M_turnWorthsIntoShares_30 ?_
            refine nv_icmp_ge (tgt := 88) hx hb d_M_turnWorthsIntoShares_33 (by decide) (by omega) (by omega) (fun hi => ?_) (fun hi => ?_)
            · obtain rfl : pn = i := by omega
              refine lv_lload_n hx hb d_M_turnWorthsIntoShares_88 rfl (lv_at hl 1 rfl) ?_
              refine lv_ldc2 (v := 9) hx hb hown (hts (.constantLong R_M 73 9) (by decide +kernel)) d_M_turnWorthsIntoShares_89 ?_
              refine nv_topl (y := lN 9) (by decide +kernel) ?_
              refine lv_lmul hx hb d_M_turnWorthsIntoShares_92 ?_
              refine lv_lstore_n (lv' := [(1, .long (pl * (lN 9))), (0, .ref (ad 0)), (3, .int (nI j)), (4, .int (nI (arN j * 8))), (5, .int (nI pn))]) hx hb d_M_turnWorthsIntoShares_93 rfl hl (by decide) rfl (fun ls hl => ?_)
              refine lv_iinc (v := (nI j) - nI 1) (lv' := [(3, .int ((nI j) - nI 1)), (1, .long (pl * (lN 9))), (0, .ref (ad 0)), (4, .int (nI (arN j * 8))), (5, .int (nI pn))]) hx hb d_M_turnWorthsIntoShares_94 hl (k := 2) rfl (by rw [Int32.sub_eq_add_neg]; rfl) (by decide) rfl (fun ls hl => ?_)
              refine lv_goto (tgt := 9) hx hb d_M_turnWorthsIntoShares_97 (by decide) ?_
              exact ih9 j (turnRow (arN j) pl shc pn) (pl * (lN 9)) (by omega) (by omega) (hT) _ _ hP hD hS ls (lv_sub hl [2, 1, 0] rfl)
            · refine lv_aload_n hx hb d_M_turnWorthsIntoShares_36 rfl (lv_at hl 0 rfl) ?_
              refine fv_get (ci := 3) (v := .ref (ad 1)) (C := R_M) (T := F_M) (N := 13) hx hb hts (by decide +kernel) hown hK hP 0 0 rfl rfl rfl 0 (by decide) (hts (.fieldLink R_M 9 "PartShelves$Matching" "shares" "[J") (by decide +kernel)) (fun _ h9 => h9) rfl d_M_turnWorthsIntoShares_37 ?_
              refine lv_iload hx hb d_M_turnWorthsIntoShares_40 (lv_at hl 3 rfl) ?_
              refine lv_iload hx hb d_M_turnWorthsIntoShares_42 (lv_at hl 4 rfl) ?_
              refine nv_iadd hx hb d_M_turnWorthsIntoShares_44 ?_
              refine fa_lald hx hb hK hP 0 1 1 rfl rfl rfl (by omega) (by decide) d_M_turnWorthsIntoShares_45 ?_
              refine nv_topl (y := shc (arN j * 8 + i)) (turnRow_at _ _ _ _) ?_
              refine lv_lstore (lv' := [(6, .long (shc (arN j * 8 + i))), (0, .ref (ad 0)), (1, .long pl), (3, .int (nI j)), (4, .int (nI (arN j * 8))), (5, .int (nI i))]) hx hb d_M_turnWorthsIntoShares_46 hl (by decide) rfl (fun ls hl => ?_)
              refine lv_lload hx hb d_M_turnWorthsIntoShares_48 (lv_at hl 0 rfl) ?_
              refine lv_ldc2 (v := (-1)) hx hb hown (hts (.constantLong R_M 50 (-1)) (by decide +kernel)) d_M_turnWorthsIntoShares_50 ?_
              refine lc_eq (tgt := 82) hx hb d_M_turnWorthsIntoShares_53 d_M_turnWorthsIntoShares_54 (by decide) (fun hv => ?_) (fun hv => ?_)
              · refine lv_iinc (v := nI (i + 1)) (lv' := [(5, .int (nI (i + 1))), (6, .long (shc (arN j * 8 + i))), (0, .ref (ad 0)), (1, .long pl), (3, .int (nI j)), (4, .int (nI (arN j * 8)))]) hx hb d_M_turnWorthsIntoShares_82 hl (k := 5) rfl (nI_1 i) (by decide) rfl (fun ls hl => ?_)
                refine lv_goto (tgt := 27) hx hb d_M_turnWorthsIntoShares_85 (by decide) ?_
                have ew3 : (turnRow (arN j) pl shc i) = (turnRow (arN j) pl shc (i + 1)) := turnRow_t hv
                have hP : va_P D cls (fl [(wM kC ad (turnRow (arN j) pl shc (i + 1)) be ob os oc ar gi pg ag pn an prn tot)]) H := by rw [← ew3]; exact hP
                have hD : va_D A (fl [(wM kC ad (turnRow (arN j) pl shc (i + 1)) be ob os oc ar gi pg ag pn an prn tot)]) := by rw [← ew3]; exact hD
                exact ih27 (i + 1) (by omega) (hi) _ _ hP hD hS ls (lv_sub hl [2, 3, 4, 5, 0] rfl)
              · refine lv_aload_n hx hb d_M_turnWorthsIntoShares_57 rfl (lv_at hl 1 rfl) ?_
                refine fv_get (ci := 3) (v := .ref (ad 1)) (C := R_M) (T := F_M) (N := 13) hx hb hts (by decide +kernel) hown hK hP 0 0 rfl rfl rfl 0 (by decide) (hts (.fieldLink R_M 9 "PartShelves$Matching" "shares" "[J") (by decide +kernel)) (fun _ h9 => h9) rfl d_M_turnWorthsIntoShares_58 ?_
                refine lv_iload hx hb d_M_turnWorthsIntoShares_61 (lv_at hl 4 rfl) ?_
                refine lv_iload hx hb d_M_turnWorthsIntoShares_63 (lv_at hl 5 rfl) ?_
                refine nv_iadd hx hb d_M_turnWorthsIntoShares_65 ?_
                refine lv_lload hx hb d_M_turnWorthsIntoShares_66 (lv_at hl 0 rfl) ?_
                refine lv_ldc2 (v := 43046721) hx hb hown (hts (.constantLong R_M 63 43046721) (by decide +kernel)) d_M_turnWorthsIntoShares_68 ?_
                refine nv_topl (y := lN 43046721) (by decide +kernel) ?_
                refine lv_lmul hx hb d_M_turnWorthsIntoShares_71 ?_
                refine lv_bipush (v := nI 8) hx hb d_M_turnWorthsIntoShares_72 (by decide +kernel) ?_
                refine lv_iload hx hb d_M_turnWorthsIntoShares_74 (lv_at hl 5 rfl) ?_
                refine nv_isub hx hb d_M_turnWorthsIntoShares_76 (by omega) ?_
                refine nv_i2l hx hb d_M_turnWorthsIntoShares_77 (by omega) ?_
                refine lv_lload_n hx hb d_M_turnWorthsIntoShares_78 rfl (lv_at hl 2 rfl) ?_
                refine lv_lmul hx hb d_M_turnWorthsIntoShares_79 ?_
                refine lv_ladd hx hb d_M_turnWorthsIntoShares_80 ?_
                refine fa_last hx hb hK hP hD hS 0 1 1 rfl rfl rfl (by omega) (by decide) d_M_turnWorthsIntoShares_81 (fun H locs hP hD hS => ?_)
                have hP : va_P D cls (fl [(wM kC ad (vp_updL (turnRow (arN j) pl shc i) (arN j * 8 + i) (((shc (arN j * 8 + i)) * (lN 43046721)) + ((lN (8 - i)) * pl))) be ob os oc ar gi pg ag pn an prn tot)]) H := hP
                have hD : va_D A (fl [(wM kC ad (vp_updL (turnRow (arN j) pl shc i) (arN j * 8 + i) (((shc (arN j * 8 + i)) * (lN 43046721)) + ((lN (8 - i)) * pl))) be ob os oc ar gi pg ag pn an prn tot)]) := hD
                refine lv_iinc (v := nI (i + 1)) (lv' := [(5, .int (nI (i + 1))), (6, .long (shc (arN j * 8 + i))), (0, .ref (ad 0)), (1, .long pl), (3, .int (nI j)), (4, .int (nI (arN j * 8)))]) hx hb d_M_turnWorthsIntoShares_82 hl (k := 5) rfl (nI_1 i) (by decide) rfl (fun ls hl => ?_)
                refine lv_goto (tgt := 27) hx hb d_M_turnWorthsIntoShares_85 (by decide) ?_
                have ew4 : (vp_updL (turnRow (arN j) pl shc i) (arN j * 8 + i) (((shc (arN j * 8 + i)) * (lN 43046721)) + ((lN (8 - i)) * pl))) = (turnRow (arN j) pl shc (i + 1)) := turnRow_f hv
                have hP : va_P D cls (fl [(wM kC ad (turnRow (arN j) pl shc (i + 1)) be ob os oc ar gi pg ag pn an prn tot)]) H := by rw [← ew4]; exact hP
                have hD : va_D A (fl [(wM kC ad (turnRow (arN j) pl shc (i + 1)) be ob os oc ar gi pg ag pn an prn tot)]) := by rw [← ew4]; exact hD
                exact ih27 (i + 1) (by omega) (hi) _ _ hP hD hS ls (lv_sub hl [2, 3, 4, 5, 0] rfl)
        have ew5 : shc = (turnRow (arN j) pl shc 0) := (turnRow_0 _ _ _).symm
        have hP : va_P D cls (fl [(wM kC ad (turnRow (arN j) pl shc 0) be ob os oc ar gi pg ag pn an prn tot)]) H := by rw [← ew5]; exact hP
        have hD : va_D A (fl [(wM kC ad (turnRow (arN j) pl shc 0) be ob os oc ar gi pg ag pn an prn tot)]) := by rw [← ew5]; exact hD
        exact L27 _ 0 (Nat.lt_succ_self _) (Nat.zero_le _) _ _ hP hD hS ls (lv_sub hl [2, 3, 4, 1, 0] rfl)
  exact L9 _ an sh (lN 1) (Nat.lt_succ_self _) (Nat.le_refl _) (rfl) _ _ hP hD hS ls (lv_sub hl [2, 1, 0] rfl)

abbrev b_M_readGiven : ByteArray := prog_4_method_13_code
def y_M_readGiven : MethodName := ⟨"PartShelves$Matching", "readGiven", "(J)V"⟩
theorem d_M_readGiven_0 : decode b_M_readGiven 0 = .ok (.lload_n 1, 1) := by decide +kernel
theorem d_M_readGiven_1 : decode b_M_readGiven 1 = .ok (.lstore_n 3, 1) := by decide +kernel
theorem d_M_readGiven_2 : decode b_M_readGiven 2 = .ok (.aload_n 0, 1) := by decide +kernel
theorem d_M_readGiven_3 : decode b_M_readGiven 3 = .ok (.iconst 0, 1) := by decide +kernel
theorem d_M_readGiven_4 : decode b_M_readGiven 4 = .ok (.putfield 47, 3) := by decide +kernel
theorem d_M_readGiven_7 : decode b_M_readGiven 7 = .ok (.aload_n 0, 1) := by decide +kernel
theorem d_M_readGiven_8 : decode b_M_readGiven 8 = .ok (.getfield 44, 3) := by decide +kernel
theorem d_M_readGiven_11 : decode b_M_readGiven 11 = .ok (.iconst 1, 1) := by decide +kernel
theorem d_M_readGiven_12 : decode b_M_readGiven 12 = .ok (.isub, 1) := by decide +kernel
theorem d_M_readGiven_13 : decode b_M_readGiven 13 = .ok (.istore 5, 2) := by decide +kernel
theorem d_M_readGiven_15 : decode b_M_readGiven 15 = .ok (.iload 5, 2) := by decide +kernel
theorem d_M_readGiven_17 : decode b_M_readGiven 17 = .ok (.ifCond .lt 68, 3) := by decide +kernel
theorem d_M_readGiven_20 : decode b_M_readGiven 20 = .ok (.lload_n 3, 1) := by decide +kernel
theorem d_M_readGiven_21 : decode b_M_readGiven 21 = .ok (.ldc2_w 73, 3) := by decide +kernel
theorem d_M_readGiven_24 : decode b_M_readGiven 24 = .ok (.lrem, 1) := by decide +kernel
theorem d_M_readGiven_25 : decode b_M_readGiven 25 = .ok (.l2i, 1) := by decide +kernel
theorem d_M_readGiven_26 : decode b_M_readGiven 26 = .ok (.istore 6, 2) := by decide +kernel
theorem d_M_readGiven_28 : decode b_M_readGiven 28 = .ok (.lload_n 3, 1) := by decide +kernel
theorem d_M_readGiven_29 : decode b_M_readGiven 29 = .ok (.ldc2_w 73, 3) := by decide +kernel
theorem d_M_readGiven_32 : decode b_M_readGiven 32 = .ok (.ldiv, 1) := by decide +kernel
theorem d_M_readGiven_33 : decode b_M_readGiven 33 = .ok (.lstore_n 3, 1) := by decide +kernel
theorem d_M_readGiven_34 : decode b_M_readGiven 34 = .ok (.aload_n 0, 1) := by decide +kernel
theorem d_M_readGiven_35 : decode b_M_readGiven 35 = .ok (.getfield 32, 3) := by decide +kernel
theorem d_M_readGiven_38 : decode b_M_readGiven 38 = .ok (.aload_n 0, 1) := by decide +kernel
theorem d_M_readGiven_39 : decode b_M_readGiven 39 = .ok (.getfield 29, 3) := by decide +kernel
theorem d_M_readGiven_42 : decode b_M_readGiven 42 = .ok (.iload 5, 2) := by decide +kernel
theorem d_M_readGiven_44 : decode b_M_readGiven 44 = .ok (.iaload, 1) := by decide +kernel
theorem d_M_readGiven_45 : decode b_M_readGiven 45 = .ok (.iload 6, 2) := by decide +kernel
theorem d_M_readGiven_47 : decode b_M_readGiven 47 = .ok (.ifCond .ne 7, 3) := by decide +kernel
theorem d_M_readGiven_50 : decode b_M_readGiven 50 = .ok (.iconst (-1), 1) := by decide +kernel
theorem d_M_readGiven_51 : decode b_M_readGiven 51 = .ok (.goto 8, 3) := by decide +kernel
theorem d_M_readGiven_54 : decode b_M_readGiven 54 = .ok (.bipush 8, 2) := by decide +kernel
theorem d_M_readGiven_56 : decode b_M_readGiven 56 = .ok (.iload 6, 2) := by decide +kernel
theorem d_M_readGiven_58 : decode b_M_readGiven 58 = .ok (.isub, 1) := by decide +kernel
theorem d_M_readGiven_59 : decode b_M_readGiven 59 = .ok (.iastore, 1) := by decide +kernel
theorem d_M_readGiven_60 : decode b_M_readGiven 60 = .ok (.aload_n 0, 1) := by decide +kernel
theorem d_M_readGiven_61 : decode b_M_readGiven 61 = .ok (.dup, 1) := by decide +kernel
theorem d_M_readGiven_62 : decode b_M_readGiven 62 = .ok (.getfield 47, 3) := by decide +kernel
theorem d_M_readGiven_65 : decode b_M_readGiven 65 = .ok (.iload 6, 2) := by decide +kernel
theorem d_M_readGiven_67 : decode b_M_readGiven 67 = .ok (.ifCond .ne 7, 3) := by decide +kernel
theorem d_M_readGiven_70 : decode b_M_readGiven 70 = .ok (.iconst 0, 1) := by decide +kernel
theorem d_M_readGiven_71 : decode b_M_readGiven 71 = .ok (.goto 4, 3) := by decide +kernel
theorem d_M_readGiven_74 : decode b_M_readGiven 74 = .ok (.iconst 1, 1) := by decide +kernel
theorem d_M_readGiven_75 : decode b_M_readGiven 75 = .ok (.iadd, 1) := by decide +kernel
theorem d_M_readGiven_76 : decode b_M_readGiven 76 = .ok (.putfield 47, 3) := by decide +kernel
theorem d_M_readGiven_79 : decode b_M_readGiven 79 = .ok (.iinc 5 (-1), 3) := by decide +kernel
theorem d_M_readGiven_82 : decode b_M_readGiven 82 = .ok (.goto (-67), 3) := by decide +kernel
theorem d_M_readGiven_85 : decode b_M_readGiven 85 = .ok (.return_, 1) := by decide +kernel
def w_M_readGiven : List Cond := .code y_M_readGiven b_M_readGiven 7 none :: ([.fieldLink "PartShelves$Matching" 47 "PartShelves$Matching" "pairCount" "I", .fieldLink "PartShelves$Matching" 44 "PartShelves$Matching" "askCount" "I", .constantLong "PartShelves$Matching" 73 9, .fieldLink "PartShelves$Matching" 32 "PartShelves$Matching" "given" "[I", .fieldLink "PartShelves$Matching" 29 "PartShelves$Matching" "askByRank" "[I"] ++ u_ws R_M F_M 13)
set_option maxHeartbeats 4000000 in
set_option maxRecDepth 100000 in
theorem c_M_given (l : Launch) (D : va_G) (kC : Nat → ClassId) (ad : Nat → Nat) (sh : Nat → Int64) (be : Nat → Int64) (ob : Nat → Int32) (os : Nat → Int64) (oc : Nat) (ar : Nat → Int32) (gi : Nat → Int32) (pg : Nat → Int64) (ag : Nat → Int64) (pn : Nat) (an : Nat) (prn : Nat) (tot : Int64) (arN : Nat → Nat) (d : Nat) (sz : Nat) (h8a : an ≤ 8) (har : ∀ r, r < an → ar r = nI (arN r) ∧ arN r < 8) (hd : d < 2 ^ 63) : Met l y_M_readGiven w_M_readGiven ({ frames := 0, cells := 0, slots := 0, locals := 0 } : Room) (gPre cls D (tyL kC) [.ref (ad 0), .long (lN d)] (fl [(wM kC ad sh be ob os oc ar gi pg ag pn an prn tot)]) sz) (gQv cls D (tyL kC) (fl [(wM kC ad sh be ob os oc ar gi pg ag pn an prn tot)]) sz (fl [(wM kC ad sh be ob os oc ar (gvF arN an d gi) pg ag pn an (gvN an d 0) tot)])) 0 0 (va_A (fl [(wM kC ad sh be ob os oc ar gi pg ag pn an prn tot)]) sz) := by
  refine Met.ofW (cc := b_M_readGiven) (maxL := 7) (ret := none) (by decide) rfl ?_
  intro p e s m args below meth c s₁ B hml hv
  obtain ⟨rfl, hsz, hP, hK, hD0⟩ := hv
  have hx := B.exec
  have hb := B.bytes
  have hr := B.returns
  have hts := atoms_spec (ws := w_M_readGiven) B.pre
  have hown : s.vm.findClass R_M = some m.cls := findClass_of_methodNamed B.named
  have hlocks := B.notSynchronized
  subst hsz
  obtain ⟨A, hAe⟩ : ∃ A : Nat → Prop, A = va_A (fl [(wM kC ad sh be ob os oc ar gi pg ag pn an prn tot)]) s.heap.size := ⟨_, rfl⟩
  have hD : va_D A (fl [(wM kC ad sh be ob os oc ar gi pg ag pn an prn tot)]) := by rw [hAe]; exact hD0.self
  have hA : ∀ q : Nat, s.heap.size ≤ q → A q := fun q h => by rw [hAe]; exact Or.inr h
  have hS : va_S A s.heap s.heap [] := va_S.rf
  have hl := lv_entry ([.ref (ad 0), .long (lN d)]) (n := 7) (Nat.le_of_ble_eq_true rfl)
  rw [lg_entry_eq]
  generalize (lg_sl ([.ref (ad 0), .long (lN d)]) ++ List.replicate (7 - (lg_sl ([.ref (ad 0), .long (lN d)])).length) Slot.unset).toArray = ls at hl ⊢
  have hl : lv_has ls 7 [(0, .ref (ad 0)), (1, .long (lN d))] := hl
  refine lv_lload_n hx hb d_M_readGiven_0 rfl (lv_at hl 1 rfl) ?_
  refine lv_lstore_n (lv' := [(3, .long (lN d)), (0, .ref (ad 0)), (1, .long (lN d))]) hx hb d_M_readGiven_1 rfl hl (by decide) rfl (fun ls hl => ?_)
  refine lv_aload_n hx hb d_M_readGiven_2 rfl (lv_at hl 1 rfl) ?_
  refine lv_iconst (v := nI 0) hx hb d_M_readGiven_3 (by decide) ?_
  refine fv_put (ci := 3) (v := .int (nI 0)) (ty := (.int)) (C := R_M) (T := F_M) (N := 13) hx hb hts (by decide +kernel) t_M t_M_ok n_M hown hK hP hD hS 0 0 rfl rfl rfl 11 (by decide) (hts (.fieldLink R_M 47 "PartShelves$Matching" "pairCount" "I") (by decide +kernel)) (fun _ h9 => h9) rfl (by decide +kernel) (rfl) (rfl) (Nat.le_of_ble_eq_true rfl) d_M_readGiven_4 (fun H locs hP hD hS => ?_)
  have hP : va_P D cls (fl [(wM kC ad sh be ob os oc ar gi pg ag pn an 0 tot)]) H := hP
  have hD : va_D A (fl [(wM kC ad sh be ob os oc ar gi pg ag pn an 0 tot)]) := hD
  refine lv_aload_n hx hb d_M_readGiven_7 rfl (lv_at hl 1 rfl) ?_
  refine fv_get (ci := 3) (v := .int (nI an)) (C := R_M) (T := F_M) (N := 13) hx hb hts (by decide +kernel) hown hK hP 0 0 rfl rfl rfl 10 (by decide) (hts (.fieldLink R_M 44 "PartShelves$Matching" "askCount" "I") (by decide +kernel)) (fun _ h9 => h9) rfl d_M_readGiven_8 ?_
  refine lv_iconst (v := nI 1) hx hb d_M_readGiven_11 (by decide) ?_
  refine lv_isub hx hb d_M_readGiven_12 ?_
  refine lv_istore (lv' := [(5, .int ((nI an) - (nI 1))), (3, .long (lN d)), (0, .ref (ad 0)), (1, .long (lN d))]) hx hb d_M_readGiven_13 hl (by decide) rfl (fun ls hl => ?_)
  have L15 : ∀ (n15 : Nat) (k : Nat) (dd : Nat) (gic : Nat → Int32) (nn : Nat), k < n15 → k ≤ an → dd < 2 ^ 63 → gvF arN k dd gic = gvF arN an d gi → gvN k dd nn = gvN an d 0 → ∀ (H : Heap) (locs : List Loc), va_P D cls (fl [(wM kC ad sh be ob os oc ar gic pg ag pn an nn tot)]) H → va_D A (fl [(wM kC ad sh be ob os oc ar gic pg ag pn an nn tot)]) → va_S A s.heap H locs → ∀ (ls : Array Slot), lv_has ls 7 [(0, .ref (ad 0)), (3, .long (lN dd)), (5, .int (nI k - nI 1))] → W p l e (headSpec w_M_readGiven ({ frames := 0, cells := 0, slots := 0, locals := 0 } : Room)).room s m ([.ref (ad 0), .long (lN d)] : List Value).toArray below meth c H locs 0 0 (MQ below (gQv cls D (tyL kC) (fl [(wM kC ad sh be ob os oc ar gi pg ag pn an prn tot)]) s.heap.size (fl [(wM kC ad sh be ob os oc ar (gvF arN an d gi) pg ag pn an (gvN an d 0) tot)])) ([.ref (ad 0), .long (lN d)] : List Value).toArray s 0 0 (va_A (fl [(wM kC ad sh be ob os oc ar gi pg ag pn an prn tot)]) s.heap.size)) (F0 m 15 ls []) := by
    intro n15
    induction n15 with
    | zero =>
      intro k dd gic nn hm
      exact absurd hm (Nat.not_lt_zero _)
    | succ n15 ih15 =>
      intro k dd gic nn hm hka hdd hG hN H locs hP hD hS ls hl
      refine lv_iload hx hb d_M_readGiven_15 (lv_at hl 2 rfl) ?_
      refine lv_if_lt (tgt := 85) hx hb d_M_readGiven_17 (by decide) (fun hk => ?_) (fun hk => ?_)
      · obtain rfl : k = 0 := (rk_neg (by omega)).mp hk
        have ew1 : gic = (gvF arN an d gi) := hG
        have hP : va_P D cls (fl [(wM kC ad sh be ob os oc ar (gvF arN an d gi) pg ag pn an nn tot)]) H := by rw [← ew1]; exact hP
        have hD : va_D A (fl [(wM kC ad sh be ob os oc ar (gvF arN an d gi) pg ag pn an nn tot)]) := by rw [← ew1]; exact hD
        have ew2 : nn = (gvN an d 0) := hN
        have hP : va_P D cls (fl [(wM kC ad sh be ob os oc ar (gvF arN an d gi) pg ag pn an (gvN an d 0) tot)]) H := by rw [← ew2]; exact hP
        have hD : va_D A (fl [(wM kC ad sh be ob os oc ar (gvF arN an d gi) pg ag pn an (gvN an d 0) tot)]) := by rw [← ew2]; exact hD
        exact W.vret hx hb hr (fun t ht hW => by subst hAe; exact ⟨⟨(), rfl, trivial, by rw [ht]; exact hP, va_K.moved hW.alike hK, hD⟩, hS.F ht⟩) (by subst hAe; exact hS.2.2) d_M_readGiven_85
      · obtain ⟨j, rfl⟩ := rk_pos (by omega) hk
        have el3 : nI (j + 1) - nI 1 = nI j := nI_pred j
        have hl : lv_has ls 7 [(0, .ref (ad 0)), (3, .long (lN dd)), (5, .int (nI j))] := by rw [← el3]; exact hl
        obtain ⟨ha1, ha2⟩ := har j (by omega)
        refine lv_lload_n hx hb d_M_readGiven_20 rfl (lv_at hl 1 rfl) ?_
        refine lv_ldc2 (v := 9) hx hb hown (hts (.constantLong R_M 73 9) (by decide +kernel)) d_M_readGiven_21 ?_
        refine nv_topl (y := lN 9) (by decide +kernel) ?_
        refine nv_lrem hx hb d_M_readGiven_24 (by omega) (by omega) (by omega) ?_
        refine nv_l2i hx hb d_M_readGiven_25 ?_
        refine lv_istore (lv' := [(6, .int (nI (dd % 9))), (0, .ref (ad 0)), (3, .long (lN dd)), (5, .int (nI j))]) hx hb d_M_readGiven_26 hl (by decide) rfl (fun ls hl => ?_)
        refine lv_lload_n hx hb d_M_readGiven_28 rfl (lv_at hl 2 rfl) ?_
        refine lv_ldc2 (v := 9) hx hb hown (hts (.constantLong R_M 73 9) (by decide +kernel)) d_M_readGiven_29 ?_
        refine nv_topl (y := lN 9) (by decide +kernel) ?_
        refine nv_ldiv hx hb d_M_readGiven_32 (by omega) (by omega) (by omega) ?_
        refine lv_lstore_n (lv' := [(3, .long (lN (dd / 9))), (6, .int (nI (dd % 9))), (0, .ref (ad 0)), (5, .int (nI j))]) hx hb d_M_readGiven_33 rfl hl (by decide) rfl (fun ls hl => ?_)
        refine lv_aload_n hx hb d_M_readGiven_34 rfl (lv_at hl 2 rfl) ?_
        refine fv_get (ci := 3) (v := .ref (ad 6)) (C := R_M) (T := F_M) (N := 13) hx hb hts (by decide +kernel) hown hK hP 0 0 rfl rfl rfl 6 (by decide) (hts (.fieldLink R_M 32 "PartShelves$Matching" "given" "[I") (by decide +kernel)) (fun _ h9 => h9) rfl d_M_readGiven_35 ?_
        refine lv_aload_n hx hb d_M_readGiven_38 rfl (lv_at hl 2 rfl) ?_
        refine fv_get (ci := 3) (v := .ref (ad 5)) (C := R_M) (T := F_M) (N := 13) hx hb hts (by decide +kernel) hown hK hP 0 0 rfl rfl rfl 5 (by decide) (hts (.fieldLink R_M 29 "PartShelves$Matching" "askByRank" "[I") (by decide +kernel)) (fun _ h9 => h9) rfl d_M_readGiven_39 ?_
        refine lv_iload hx hb d_M_readGiven_42 (lv_at hl 3 rfl) ?_
        refine fa_iald hx hb hK hP 0 5 0 rfl rfl rfl (by omega) (by decide) d_M_readGiven_44 ?_
        refine nv_topi (y := nI (arN j)) (ha1) ?_
        refine lv_iload hx hb d_M_readGiven_45 (lv_at hl 1 rfl) ?_
        refine nv_if_ne (tgt := 54) hx hb d_M_readGiven_47 (by decide) (by omega) (fun hz => ?_) (fun hz => ?_)
        · refine lv_bipush (v := nI 8) hx hb d_M_readGiven_54 (by decide +kernel) ?_
          refine lv_iload hx hb d_M_readGiven_56 (lv_at hl 1 rfl) ?_
          refine nv_isub hx hb d_M_readGiven_58 (by omega) ?_
          refine fa_iast hx hb hK hP hD hS 0 6 0 rfl rfl rfl (by omega) (by decide) d_M_readGiven_59 (fun H locs hP hD hS => ?_)
          have hP : va_P D cls (fl [(wM kC ad sh be ob os oc ar (upd gic (arN j) (nI (8 - (dd % 9)))) pg ag pn an nn tot)]) H := hP
          have hD : va_D A (fl [(wM kC ad sh be ob os oc ar (upd gic (arN j) (nI (8 - (dd % 9)))) pg ag pn an nn tot)]) := hD
          refine lv_aload_n hx hb d_M_readGiven_60 rfl (lv_at hl 2 rfl) ?_
          refine lv_dup hx hb d_M_readGiven_61 rfl ?_
          refine fv_get (ci := 3) (v := .int (nI nn)) (C := R_M) (T := F_M) (N := 13) hx hb hts (by decide +kernel) hown hK hP 0 0 rfl rfl rfl 11 (by decide) (hts (.fieldLink R_M 47 "PartShelves$Matching" "pairCount" "I") (by decide +kernel)) (fun _ h9 => h9) rfl d_M_readGiven_62 ?_
          refine lv_iload hx hb d_M_readGiven_65 (lv_at hl 1 rfl) ?_
          refine nv_if_ne (tgt := 74) hx hb d_M_readGiven_67 (by decide) (by omega) (fun hz2 => ?_) (fun hz2 => ?_)
          · refine lv_iconst (v := nI 1) hx hb d_M_readGiven_74 (by decide) ?_
            refine nv_iadd hx hb d_M_readGiven_75 ?_
            refine fv_put (ci := 3) (v := .int (nI (nn + 1))) (ty := (.int)) (C := R_M) (T := F_M) (N := 13) hx hb hts (by decide +kernel) t_M t_M_ok n_M hown hK hP hD hS 0 0 rfl rfl rfl 11 (by decide) (hts (.fieldLink R_M 47 "PartShelves$Matching" "pairCount" "I") (by decide +kernel)) (fun _ h9 => h9) rfl (by decide +kernel) (rfl) (rfl) (Nat.le_of_ble_eq_true rfl) d_M_readGiven_76 (fun H locs hP hD hS => ?_)
            have hP : va_P D cls (fl [(wM kC ad sh be ob os oc ar (upd gic (arN j) (nI (8 - (dd % 9)))) pg ag pn an (nn + 1) tot)]) H := hP
            have hD : va_D A (fl [(wM kC ad sh be ob os oc ar (upd gic (arN j) (nI (8 - (dd % 9)))) pg ag pn an (nn + 1) tot)]) := hD
            refine lv_iinc (v := (nI j) - nI 1) (lv' := [(5, .int ((nI j) - nI 1)), (3, .long (lN (dd / 9))), (6, .int (nI (dd % 9))), (0, .ref (ad 0))]) hx hb d_M_readGiven_79 hl (k := 3) rfl (by rw [Int32.sub_eq_add_neg]; rfl) (by decide) rfl (fun ls hl => ?_)
            refine lv_goto (tgt := 15) hx hb d_M_readGiven_82 (by decide) ?_
            exact ih15 j (dd / 9) (upd gic (arN j) (nI (8 - (dd % 9)))) (nn + 1) (by omega) (by omega) (Nat.lt_of_le_of_lt (Nat.div_le_self _ _) hdd) (by rw [← hG]; simp only [gvF]; rw [if_neg hz]) (by rw [← hN]; simp only [gvN]; rw [if_neg hz]) _ _ hP hD hS ls (lv_sub hl [3, 1, 0] rfl)
          · exact absurd hz2 hz
        · refine lv_iconst (v := (-1)) hx hb d_M_readGiven_50 (by decide) ?_
          refine lv_goto (tgt := 59) hx hb d_M_readGiven_51 (by decide) ?_
          refine fa_iast hx hb hK hP hD hS 0 6 0 rfl rfl rfl (by omega) (by decide) d_M_readGiven_59 (fun H locs hP hD hS => ?_)
          have hP : va_P D cls (fl [(wM kC ad sh be ob os oc ar (upd gic (arN j) (-1)) pg ag pn an nn tot)]) H := hP
          have hD : va_D A (fl [(wM kC ad sh be ob os oc ar (upd gic (arN j) (-1)) pg ag pn an nn tot)]) := hD
          refine lv_aload_n hx hb d_M_readGiven_60 rfl (lv_at hl 2 rfl) ?_
          refine lv_dup hx hb d_M_readGiven_61 rfl ?_
          refine fv_get (ci := 3) (v := .int (nI nn)) (C := R_M) (T := F_M) (N := 13) hx hb hts (by decide +kernel) hown hK hP 0 0 rfl rfl rfl 11 (by decide) (hts (.fieldLink R_M 47 "PartShelves$Matching" "pairCount" "I") (by decide +kernel)) (fun _ h9 => h9) rfl d_M_readGiven_62 ?_
          refine lv_iload hx hb d_M_readGiven_65 (lv_at hl 1 rfl) ?_
          refine nv_if_ne (tgt := 74) hx hb d_M_readGiven_67 (by decide) (by omega) (fun hz2 => ?_) (fun hz2 => ?_)
          · exact absurd hz hz2
          · refine lv_iconst (v := nI 0) hx hb d_M_readGiven_70 (by decide) ?_
            refine lv_goto (tgt := 75) hx hb d_M_readGiven_71 (by decide) ?_
            refine nv_iadd hx hb d_M_readGiven_75 ?_
            refine fv_put (ci := 3) (v := .int (nI (nn + 0))) (ty := (.int)) (C := R_M) (T := F_M) (N := 13) hx hb hts (by decide +kernel) t_M t_M_ok n_M hown hK hP hD hS 0 0 rfl rfl rfl 11 (by decide) (hts (.fieldLink R_M 47 "PartShelves$Matching" "pairCount" "I") (by decide +kernel)) (fun _ h9 => h9) rfl (by decide +kernel) (rfl) (rfl) (Nat.le_of_ble_eq_true rfl) d_M_readGiven_76 (fun H locs hP hD hS => ?_)
            have hP : va_P D cls (fl [(wM kC ad sh be ob os oc ar (upd gic (arN j) (-1)) pg ag pn an (nn + 0) tot)]) H := hP
            have hD : va_D A (fl [(wM kC ad sh be ob os oc ar (upd gic (arN j) (-1)) pg ag pn an (nn + 0) tot)]) := hD
            refine lv_iinc (v := (nI j) - nI 1) (lv' := [(5, .int ((nI j) - nI 1)), (3, .long (lN (dd / 9))), (6, .int (nI (dd % 9))), (0, .ref (ad 0))]) hx hb d_M_readGiven_79 hl (k := 3) rfl (by rw [Int32.sub_eq_add_neg]; rfl) (by decide) rfl (fun ls hl => ?_)
            refine lv_goto (tgt := 15) hx hb d_M_readGiven_82 (by decide) ?_
            exact ih15 j (dd / 9) (upd gic (arN j) (-1)) (nn + 0) (by omega) (by omega) (Nat.lt_of_le_of_lt (Nat.div_le_self _ _) hdd) (by rw [← hG]; simp only [gvF]; rw [if_pos hz]) (by rw [← hN]; simp only [gvN]; rw [if_pos hz]) _ _ hP hD hS ls (lv_sub hl [3, 1, 0] rfl)
  exact L15 _ an d gi 0 (Nat.lt_succ_self _) (Nat.le_refl _) (hd) (rfl) (rfl) _ _ hP hD hS ls (lv_sub hl [2, 1, 0] rfl)

abbrev b_M_readGains : ByteArray := prog_4_method_14_code
def y_M_readGains : MethodName := ⟨"PartShelves$Matching", "readGains", "([JI)V"⟩
theorem d_M_readGains_0 : decode b_M_readGains 0 = .ok (.iconst 1, 1) := by decide +kernel
theorem d_M_readGains_1 : decode b_M_readGains 1 = .ok (.iload_n 2, 1) := by decide +kernel
theorem d_M_readGains_2 : decode b_M_readGains 2 = .ok (.ishl, 1) := by decide +kernel
theorem d_M_readGains_3 : decode b_M_readGains 3 = .ok (.iconst 1, 1) := by decide +kernel
theorem d_M_readGains_4 : decode b_M_readGains 4 = .ok (.isub, 1) := by decide +kernel
theorem d_M_readGains_5 : decode b_M_readGains 5 = .ok (.istore_n 3, 1) := by decide +kernel
theorem d_M_readGains_6 : decode b_M_readGains 6 = .ok (.iconst 0, 1) := by decide +kernel
theorem d_M_readGains_7 : decode b_M_readGains 7 = .ok (.istore 4, 2) := by decide +kernel
theorem d_M_readGains_9 : decode b_M_readGains 9 = .ok (.iload 4, 2) := by decide +kernel
theorem d_M_readGains_11 : decode b_M_readGains 11 = .ok (.iload_n 2, 1) := by decide +kernel
theorem d_M_readGains_12 : decode b_M_readGains 12 = .ok (.if_icmp .ge 33, 3) := by decide +kernel
theorem d_M_readGains_15 : decode b_M_readGains 15 = .ok (.aload_n 1, 1) := by decide +kernel
theorem d_M_readGains_16 : decode b_M_readGains 16 = .ok (.iload 4, 2) := by decide +kernel
theorem d_M_readGains_18 : decode b_M_readGains 18 = .ok (.aload_n 0, 1) := by decide +kernel
theorem d_M_readGains_19 : decode b_M_readGains 19 = .ok (.getfield 52, 3) := by decide +kernel
theorem d_M_readGains_22 : decode b_M_readGains 22 = .ok (.aload_n 0, 1) := by decide +kernel
theorem d_M_readGains_23 : decode b_M_readGains 23 = .ok (.getfield 15, 3) := by decide +kernel
theorem d_M_readGains_26 : decode b_M_readGains 26 = .ok (.iload_n 3, 1) := by decide +kernel
theorem d_M_readGains_27 : decode b_M_readGains 27 = .ok (.iconst 1, 1) := by decide +kernel
theorem d_M_readGains_28 : decode b_M_readGains 28 = .ok (.iload 4, 2) := by decide +kernel
theorem d_M_readGains_30 : decode b_M_readGains 30 = .ok (.ishl, 1) := by decide +kernel
theorem d_M_readGains_31 : decode b_M_readGains 31 = .ok (.ixor, 1) := by decide +kernel
theorem d_M_readGains_32 : decode b_M_readGains 32 = .ok (.laload, 1) := by decide +kernel
theorem d_M_readGains_33 : decode b_M_readGains 33 = .ok (.ldc2_w 63, 3) := by decide +kernel
theorem d_M_readGains_36 : decode b_M_readGains 36 = .ok (.ldiv, 1) := by decide +kernel
theorem d_M_readGains_37 : decode b_M_readGains 37 = .ok (.lsub, 1) := by decide +kernel
theorem d_M_readGains_38 : decode b_M_readGains 38 = .ok (.lastore, 1) := by decide +kernel
theorem d_M_readGains_39 : decode b_M_readGains 39 = .ok (.iinc 4 1, 3) := by decide +kernel
theorem d_M_readGains_42 : decode b_M_readGains 42 = .ok (.goto (-33), 3) := by decide +kernel
theorem d_M_readGains_45 : decode b_M_readGains 45 = .ok (.return_, 1) := by decide +kernel
def w_M_readGains : List Cond := .code y_M_readGains b_M_readGains 5 none :: ([.fieldLink "PartShelves$Matching" 52 "PartShelves$Matching" "total" "J", .fieldLink "PartShelves$Matching" 15 "PartShelves$Matching" "best" "[J", .constantLong "PartShelves$Matching" 63 43046721] ++ u_ws R_M F_M 13)
set_option maxHeartbeats 4000000 in
set_option maxRecDepth 100000 in
theorem c_M_gainsP (l : Launch) (D : va_G) (kC : Nat → ClassId) (ad : Nat → Nat) (sh : Nat → Int64) (be : Nat → Int64) (ob : Nat → Int32) (os : Nat → Int64) (oc : Nat) (ar : Nat → Int32) (gi : Nat → Int32) (pg : Nat → Int64) (ag : Nat → Int64) (pn : Nat) (an : Nat) (prn : Nat) (tot : Int64) (M : Nat) (sz : Nat) (eM : M ≤ 8) : Met l y_M_readGains w_M_readGains ({ frames := 0, cells := 0, slots := 0, locals := 0 } : Room) (gPre cls D (tyL kC) [.ref (ad 0), .ref (ad 7), .int (nI M)] (fl [(wM kC ad sh be ob os oc ar gi pg ag pn an prn tot)]) sz) (gQv cls D (tyL kC) (fl [(wM kC ad sh be ob os oc ar gi pg ag pn an prn tot)]) sz (fl [(wM kC ad sh be ob os oc ar gi (gnF be pg tot (2 ^ M) M) ag pn an prn tot)])) 0 0 (va_A (fl [(wM kC ad sh be ob os oc ar gi pg ag pn an prn tot)]) sz) := by
  refine Met.ofW (cc := b_M_readGains) (maxL := 5) (ret := none) (by decide) rfl ?_
  intro p e s m args below meth c s₁ B hml hv
  obtain ⟨rfl, hsz, hP, hK, hD0⟩ := hv
  have hx := B.exec
  have hb := B.bytes
  have hr := B.returns
  have hts := atoms_spec (ws := w_M_readGains) B.pre
  have hown : s.vm.findClass R_M = some m.cls := findClass_of_methodNamed B.named
  have hlocks := B.notSynchronized
  subst hsz
  obtain ⟨A, hAe⟩ : ∃ A : Nat → Prop, A = va_A (fl [(wM kC ad sh be ob os oc ar gi pg ag pn an prn tot)]) s.heap.size := ⟨_, rfl⟩
  have hD : va_D A (fl [(wM kC ad sh be ob os oc ar gi pg ag pn an prn tot)]) := by rw [hAe]; exact hD0.self
  have hA : ∀ q : Nat, s.heap.size ≤ q → A q := fun q h => by rw [hAe]; exact Or.inr h
  have hS : va_S A s.heap s.heap [] := va_S.rf
  have hl := lv_entry ([.ref (ad 0), .ref (ad 7), .int (nI M)]) (n := 5) (Nat.le_of_ble_eq_true rfl)
  rw [lg_entry_eq]
  generalize (lg_sl ([.ref (ad 0), .ref (ad 7), .int (nI M)]) ++ List.replicate (5 - (lg_sl ([.ref (ad 0), .ref (ad 7), .int (nI M)])).length) Slot.unset).toArray = ls at hl ⊢
  have hl : lv_has ls 5 [(0, .ref (ad 0)), (1, .ref (ad 7)), (2, .int (nI M))] := hl
  obtain ⟨S, eS⟩ : ∃ S, S = 2 ^ M := ⟨_, rfl⟩
  obtain ⟨hS0, hS1⟩ := pow_in eS eM
  refine lv_iconst (v := nI 1) hx hb d_M_readGains_0 (by decide) ?_
  refine lv_iload_n hx hb d_M_readGains_1 rfl (lv_at hl 2 rfl) ?_
  refine lv_ishl hx hb d_M_readGains_2 ?_
  refine nv_topi (y := nI S) (by rw [eS]; exact shl1 M (by omega)) ?_
  refine lv_iconst (v := nI 1) hx hb d_M_readGains_3 (by decide) ?_
  refine nv_isub hx hb d_M_readGains_4 (by omega) ?_
  refine lv_istore_n (lv' := [(3, .int (nI (S - 1))), (0, .ref (ad 0)), (1, .ref (ad 7)), (2, .int (nI M))]) hx hb d_M_readGains_5 rfl hl (by decide) rfl (fun ls hl => ?_)
  refine lv_iconst (v := nI 0) hx hb d_M_readGains_6 (by decide) ?_
  refine lv_istore (lv' := [(4, .int (nI 0)), (3, .int (nI (S - 1))), (0, .ref (ad 0)), (1, .ref (ad 7)), (2, .int (nI M))]) hx hb d_M_readGains_7 hl (by decide) rfl (fun ls hl => ?_)
  have L9 : ∀ (n9 : Nat) (i : Nat), M - i < n9 → i ≤ M → ∀ (H : Heap) (locs : List Loc), va_P D cls (fl [(wM kC ad sh be ob os oc ar gi (gnF be pg tot S i) ag pn an prn tot)]) H → va_D A (fl [(wM kC ad sh be ob os oc ar gi (gnF be pg tot S i) ag pn an prn tot)]) → va_S A s.heap H locs → ∀ (ls : Array Slot), lv_has ls 5 [(0, .ref (ad 0)), (1, .ref (ad 7)), (2, .int (nI M)), (3, .int (nI (S - 1))), (4, .int (nI i))] → W p l e (headSpec w_M_readGains ({ frames := 0, cells := 0, slots := 0, locals := 0 } : Room)).room s m ([.ref (ad 0), .ref (ad 7), .int (nI M)] : List Value).toArray below meth c H locs 0 0 (MQ below (gQv cls D (tyL kC) (fl [(wM kC ad sh be ob os oc ar gi pg ag pn an prn tot)]) s.heap.size (fl [(wM kC ad sh be ob os oc ar gi (gnF be pg tot (2 ^ M) M) ag pn an prn tot)])) ([.ref (ad 0), .ref (ad 7), .int (nI M)] : List Value).toArray s 0 0 (va_A (fl [(wM kC ad sh be ob os oc ar gi pg ag pn an prn tot)]) s.heap.size)) (F0 m 9 ls []) := by
    intro n9
    induction n9 with
    | zero =>
      intro i hm
      exact absurd hm (Nat.not_lt_zero _)
    | succ n9 ih9 =>
      intro i hm hiM H locs hP hD hS ls hl
      refine lv_iload hx hb d_M_readGains_9 (lv_at hl 4 rfl) ?_
      refine lv_iload_n hx hb d_M_readGains_11 rfl (lv_at hl 2 rfl) ?_
      refine nv_icmp_ge (tgt := 45) hx hb d_M_readGains_12 (by decide) (by omega) (by omega) (fun hi => ?_) (fun hi => ?_)
      · obtain rfl : M = i := by omega
        subst eS
        exact W.vret hx hb hr (fun t ht hW => by subst hAe; exact ⟨⟨(), rfl, trivial, by rw [ht]; exact hP, va_K.moved hW.alike hK, hD⟩, hS.F ht⟩) (by subst hAe; exact hS.2.2) d_M_readGains_45
      · have h2i : 2 ^ i < S := by rw [eS]; exact Nat.pow_lt_pow_right (by decide) hi
        refine lv_aload_n hx hb d_M_readGains_15 rfl (lv_at hl 1 rfl) ?_
        refine lv_iload hx hb d_M_readGains_16 (lv_at hl 4 rfl) ?_
        refine lv_aload_n hx hb d_M_readGains_18 rfl (lv_at hl 0 rfl) ?_
        refine fv_get (ci := 3) (v := .long tot) (C := R_M) (T := F_M) (N := 13) hx hb hts (by decide +kernel) hown hK hP 0 0 rfl rfl rfl 12 (by decide) (hts (.fieldLink R_M 52 "PartShelves$Matching" "total" "J") (by decide +kernel)) (fun _ h9 => h9) rfl d_M_readGains_19 ?_
        refine lv_aload_n hx hb d_M_readGains_22 rfl (lv_at hl 0 rfl) ?_
        refine fv_get (ci := 3) (v := .ref (ad 2)) (C := R_M) (T := F_M) (N := 13) hx hb hts (by decide +kernel) hown hK hP 0 0 rfl rfl rfl 1 (by decide) (hts (.fieldLink R_M 15 "PartShelves$Matching" "best" "[J") (by decide +kernel)) (fun _ h9 => h9) rfl d_M_readGains_23 ?_
        refine lv_iload_n hx hb d_M_readGains_26 rfl (lv_at hl 3 rfl) ?_
        refine lv_iconst (v := nI 1) hx hb d_M_readGains_27 (by decide) ?_
        refine lv_iload hx hb d_M_readGains_28 (lv_at hl 4 rfl) ?_
        refine lv_ishl hx hb d_M_readGains_30 ?_
        refine nv_topi (y := nI (2 ^ i)) (shl1 i (by omega)) ?_
        refine lv_ixor hx hb d_M_readGains_31 ?_
        refine nv_topi (y := nI ((S - 1) ^^^ 2 ^ i)) (nx_xor _ _) ?_
        refine fa_lald hx hb hK hP 0 2 1 rfl rfl rfl (Nat.lt_of_lt_of_le (xor_in eS (by omega) h2i) hS1) (by decide) d_M_readGains_32 ?_
        refine lv_ldc2 (v := 43046721) hx hb hown (hts (.constantLong R_M 63 43046721) (by decide +kernel)) d_M_readGains_33 ?_
        refine nv_topl (y := lN 43046721) (by decide +kernel) ?_
        refine lv_ldiv hx hb d_M_readGains_36 (by decide +kernel) ?_
        refine lv_lsub hx hb d_M_readGains_37 ?_
        refine fa_last hx hb hK hP hD hS 0 7 1 rfl rfl rfl (by omega) (by decide) d_M_readGains_38 (fun H locs hP hD hS => ?_)
        have hP : va_P D cls (fl [(wM kC ad sh be ob os oc ar gi (vp_updL (gnF be pg tot S i) i (tot - ((be ((S - 1) ^^^ 2 ^ i)) / (lN 43046721)))) ag pn an prn tot)]) H := hP
        have hD : va_D A (fl [(wM kC ad sh be ob os oc ar gi (vp_updL (gnF be pg tot S i) i (tot - ((be ((S - 1) ^^^ 2 ^ i)) / (lN 43046721)))) ag pn an prn tot)]) := hD
        refine lv_iinc (v := nI (i + 1)) (lv' := [(4, .int (nI (i + 1))), (0, .ref (ad 0)), (1, .ref (ad 7)), (2, .int (nI M)), (3, .int (nI (S - 1)))]) hx hb d_M_readGains_39 hl (k := 4) rfl (nI_1 i) (by decide) rfl (fun ls hl => ?_)
        refine lv_goto (tgt := 9) hx hb d_M_readGains_42 (by decide) ?_
        have ew1 : (vp_updL (gnF be pg tot S i) i (tot - ((be ((S - 1) ^^^ 2 ^ i)) / (lN 43046721)))) = (gnF be pg tot S (i + 1)) := gnF_s _ _ _ _ _
        have hP : va_P D cls (fl [(wM kC ad sh be ob os oc ar gi (gnF be pg tot S (i + 1)) ag pn an prn tot)]) H := by rw [← ew1]; exact hP
        have hD : va_D A (fl [(wM kC ad sh be ob os oc ar gi (gnF be pg tot S (i + 1)) ag pn an prn tot)]) := by rw [← ew1]; exact hD
        exact ih9 (i + 1) (by omega) (hi) _ _ hP hD hS ls (lv_sub hl [1, 2, 3, 4, 0] rfl)
  have ew2 : pg = (gnF be pg tot S 0) := (gnF_0 _ _ _ _).symm
  have hP : va_P D cls (fl [(wM kC ad sh be ob os oc ar gi (gnF be pg tot S 0) ag pn an prn tot)]) s.heap := by rw [← ew2]; exact hP
  have hD : va_D A (fl [(wM kC ad sh be ob os oc ar gi (gnF be pg tot S 0) ag pn an prn tot)]) := by rw [← ew2]; exact hD
  exact L9 _ 0 (Nat.lt_succ_self _) (Nat.zero_le _) _ _ hP hD hS ls (lv_sub hl [2, 3, 4, 1, 0] rfl)

set_option maxHeartbeats 4000000 in
set_option maxRecDepth 100000 in
theorem c_M_gainsA (l : Launch) (D : va_G) (kC : Nat → ClassId) (ad : Nat → Nat) (sh : Nat → Int64) (be : Nat → Int64) (ob : Nat → Int32) (os : Nat → Int64) (oc : Nat) (ar : Nat → Int32) (gi : Nat → Int32) (pg : Nat → Int64) (ag : Nat → Int64) (pn : Nat) (an : Nat) (prn : Nat) (tot : Int64) (M : Nat) (sz : Nat) (eM : M ≤ 8) : Met l y_M_readGains w_M_readGains ({ frames := 0, cells := 0, slots := 0, locals := 0 } : Room) (gPre cls D (tyL kC) [.ref (ad 0), .ref (ad 8), .int (nI M)] (fl [(wM kC ad sh be ob os oc ar gi pg ag pn an prn tot)]) sz) (gQv cls D (tyL kC) (fl [(wM kC ad sh be ob os oc ar gi pg ag pn an prn tot)]) sz (fl [(wM kC ad sh be ob os oc ar gi pg (gnF be ag tot (2 ^ M) M) pn an prn tot)])) 0 0 (va_A (fl [(wM kC ad sh be ob os oc ar gi pg ag pn an prn tot)]) sz) := by
  refine Met.ofW (cc := b_M_readGains) (maxL := 5) (ret := none) (by decide) rfl ?_
  intro p e s m args below meth c s₁ B hml hv
  obtain ⟨rfl, hsz, hP, hK, hD0⟩ := hv
  have hx := B.exec
  have hb := B.bytes
  have hr := B.returns
  have hts := atoms_spec (ws := w_M_readGains) B.pre
  have hown : s.vm.findClass R_M = some m.cls := findClass_of_methodNamed B.named
  have hlocks := B.notSynchronized
  subst hsz
  obtain ⟨A, hAe⟩ : ∃ A : Nat → Prop, A = va_A (fl [(wM kC ad sh be ob os oc ar gi pg ag pn an prn tot)]) s.heap.size := ⟨_, rfl⟩
  have hD : va_D A (fl [(wM kC ad sh be ob os oc ar gi pg ag pn an prn tot)]) := by rw [hAe]; exact hD0.self
  have hA : ∀ q : Nat, s.heap.size ≤ q → A q := fun q h => by rw [hAe]; exact Or.inr h
  have hS : va_S A s.heap s.heap [] := va_S.rf
  have hl := lv_entry ([.ref (ad 0), .ref (ad 8), .int (nI M)]) (n := 5) (Nat.le_of_ble_eq_true rfl)
  rw [lg_entry_eq]
  generalize (lg_sl ([.ref (ad 0), .ref (ad 8), .int (nI M)]) ++ List.replicate (5 - (lg_sl ([.ref (ad 0), .ref (ad 8), .int (nI M)])).length) Slot.unset).toArray = ls at hl ⊢
  have hl : lv_has ls 5 [(0, .ref (ad 0)), (1, .ref (ad 8)), (2, .int (nI M))] := hl
  obtain ⟨S, eS⟩ : ∃ S, S = 2 ^ M := ⟨_, rfl⟩
  obtain ⟨hS0, hS1⟩ := pow_in eS eM
  refine lv_iconst (v := nI 1) hx hb d_M_readGains_0 (by decide) ?_
  refine lv_iload_n hx hb d_M_readGains_1 rfl (lv_at hl 2 rfl) ?_
  refine lv_ishl hx hb d_M_readGains_2 ?_
  refine nv_topi (y := nI S) (by rw [eS]; exact shl1 M (by omega)) ?_
  refine lv_iconst (v := nI 1) hx hb d_M_readGains_3 (by decide) ?_
  refine nv_isub hx hb d_M_readGains_4 (by omega) ?_
  refine lv_istore_n (lv' := [(3, .int (nI (S - 1))), (0, .ref (ad 0)), (1, .ref (ad 8)), (2, .int (nI M))]) hx hb d_M_readGains_5 rfl hl (by decide) rfl (fun ls hl => ?_)
  refine lv_iconst (v := nI 0) hx hb d_M_readGains_6 (by decide) ?_
  refine lv_istore (lv' := [(4, .int (nI 0)), (3, .int (nI (S - 1))), (0, .ref (ad 0)), (1, .ref (ad 8)), (2, .int (nI M))]) hx hb d_M_readGains_7 hl (by decide) rfl (fun ls hl => ?_)
  have L9 : ∀ (n9 : Nat) (i : Nat), M - i < n9 → i ≤ M → ∀ (H : Heap) (locs : List Loc), va_P D cls (fl [(wM kC ad sh be ob os oc ar gi pg (gnF be ag tot S i) pn an prn tot)]) H → va_D A (fl [(wM kC ad sh be ob os oc ar gi pg (gnF be ag tot S i) pn an prn tot)]) → va_S A s.heap H locs → ∀ (ls : Array Slot), lv_has ls 5 [(0, .ref (ad 0)), (1, .ref (ad 8)), (2, .int (nI M)), (3, .int (nI (S - 1))), (4, .int (nI i))] → W p l e (headSpec w_M_readGains ({ frames := 0, cells := 0, slots := 0, locals := 0 } : Room)).room s m ([.ref (ad 0), .ref (ad 8), .int (nI M)] : List Value).toArray below meth c H locs 0 0 (MQ below (gQv cls D (tyL kC) (fl [(wM kC ad sh be ob os oc ar gi pg ag pn an prn tot)]) s.heap.size (fl [(wM kC ad sh be ob os oc ar gi pg (gnF be ag tot (2 ^ M) M) pn an prn tot)])) ([.ref (ad 0), .ref (ad 8), .int (nI M)] : List Value).toArray s 0 0 (va_A (fl [(wM kC ad sh be ob os oc ar gi pg ag pn an prn tot)]) s.heap.size)) (F0 m 9 ls []) := by
    intro n9
    induction n9 with
    | zero =>
      intro i hm
      exact absurd hm (Nat.not_lt_zero _)
    | succ n9 ih9 =>
      intro i hm hiM H locs hP hD hS ls hl
      refine lv_iload hx hb d_M_readGains_9 (lv_at hl 4 rfl) ?_
      refine lv_iload_n hx hb d_M_readGains_11 rfl (lv_at hl 2 rfl) ?_
      refine nv_icmp_ge (tgt := 45) hx hb d_M_readGains_12 (by decide) (by omega) (by omega) (fun hi => ?_) (fun hi => ?_)
      · obtain rfl : M = i := by omega
        subst eS
        exact W.vret hx hb hr (fun t ht hW => by subst hAe; exact ⟨⟨(), rfl, trivial, by rw [ht]; exact hP, va_K.moved hW.alike hK, hD⟩, hS.F ht⟩) (by subst hAe; exact hS.2.2) d_M_readGains_45
      · have h2i : 2 ^ i < S := by rw [eS]; exact Nat.pow_lt_pow_right (by decide) hi
        refine lv_aload_n hx hb d_M_readGains_15 rfl (lv_at hl 1 rfl) ?_
        refine lv_iload hx hb d_M_readGains_16 (lv_at hl 4 rfl) ?_
        refine lv_aload_n hx hb d_M_readGains_18 rfl (lv_at hl 0 rfl) ?_
        refine fv_get (ci := 3) (v := .long tot) (C := R_M) (T := F_M) (N := 13) hx hb hts (by decide +kernel) hown hK hP 0 0 rfl rfl rfl 12 (by decide) (hts (.fieldLink R_M 52 "PartShelves$Matching" "total" "J") (by decide +kernel)) (fun _ h9 => h9) rfl d_M_readGains_19 ?_
        refine lv_aload_n hx hb d_M_readGains_22 rfl (lv_at hl 0 rfl) ?_
        refine fv_get (ci := 3) (v := .ref (ad 2)) (C := R_M) (T := F_M) (N := 13) hx hb hts (by decide +kernel) hown hK hP 0 0 rfl rfl rfl 1 (by decide) (hts (.fieldLink R_M 15 "PartShelves$Matching" "best" "[J") (by decide +kernel)) (fun _ h9 => h9) rfl d_M_readGains_23 ?_
        refine lv_iload_n hx hb d_M_readGains_26 rfl (lv_at hl 3 rfl) ?_
        refine lv_iconst (v := nI 1) hx hb d_M_readGains_27 (by decide) ?_
        refine lv_iload hx hb d_M_readGains_28 (lv_at hl 4 rfl) ?_
        refine lv_ishl hx hb d_M_readGains_30 ?_
        refine nv_topi (y := nI (2 ^ i)) (shl1 i (by omega)) ?_
        refine lv_ixor hx hb d_M_readGains_31 ?_
        refine nv_topi (y := nI ((S - 1) ^^^ 2 ^ i)) (nx_xor _ _) ?_
        refine fa_lald hx hb hK hP 0 2 1 rfl rfl rfl (Nat.lt_of_lt_of_le (xor_in eS (by omega) h2i) hS1) (by decide) d_M_readGains_32 ?_
        refine lv_ldc2 (v := 43046721) hx hb hown (hts (.constantLong R_M 63 43046721) (by decide +kernel)) d_M_readGains_33 ?_
        refine nv_topl (y := lN 43046721) (by decide +kernel) ?_
        refine lv_ldiv hx hb d_M_readGains_36 (by decide +kernel) ?_
        refine lv_lsub hx hb d_M_readGains_37 ?_
        refine fa_last hx hb hK hP hD hS 0 8 1 rfl rfl rfl (by omega) (by decide) d_M_readGains_38 (fun H locs hP hD hS => ?_)
        have hP : va_P D cls (fl [(wM kC ad sh be ob os oc ar gi pg (vp_updL (gnF be ag tot S i) i (tot - ((be ((S - 1) ^^^ 2 ^ i)) / (lN 43046721)))) pn an prn tot)]) H := hP
        have hD : va_D A (fl [(wM kC ad sh be ob os oc ar gi pg (vp_updL (gnF be ag tot S i) i (tot - ((be ((S - 1) ^^^ 2 ^ i)) / (lN 43046721)))) pn an prn tot)]) := hD
        refine lv_iinc (v := nI (i + 1)) (lv' := [(4, .int (nI (i + 1))), (0, .ref (ad 0)), (1, .ref (ad 8)), (2, .int (nI M)), (3, .int (nI (S - 1)))]) hx hb d_M_readGains_39 hl (k := 4) rfl (nI_1 i) (by decide) rfl (fun ls hl => ?_)
        refine lv_goto (tgt := 9) hx hb d_M_readGains_42 (by decide) ?_
        have ew1 : (vp_updL (gnF be ag tot S i) i (tot - ((be ((S - 1) ^^^ 2 ^ i)) / (lN 43046721)))) = (gnF be ag tot S (i + 1)) := gnF_s _ _ _ _ _
        have hP : va_P D cls (fl [(wM kC ad sh be ob os oc ar gi pg (gnF be ag tot S (i + 1)) pn an prn tot)]) H := by rw [← ew1]; exact hP
        have hD : va_D A (fl [(wM kC ad sh be ob os oc ar gi pg (gnF be ag tot S (i + 1)) pn an prn tot)]) := by rw [← ew1]; exact hD
        exact ih9 (i + 1) (by omega) (hi) _ _ hP hD hS ls (lv_sub hl [1, 2, 3, 4, 0] rfl)
  have ew2 : ag = (gnF be ag tot S 0) := (gnF_0 _ _ _ _).symm
  have hP : va_P D cls (fl [(wM kC ad sh be ob os oc ar gi pg (gnF be ag tot S 0) pn an prn tot)]) s.heap := by rw [← ew2]; exact hP
  have hD : va_D A (fl [(wM kC ad sh be ob os oc ar gi pg (gnF be ag tot S 0) pn an prn tot)]) := by rw [← ew2]; exact hD
  exact L9 _ 0 (Nat.lt_succ_self _) (Nat.zero_le _) _ _ hP hD hS ls (lv_sub hl [2, 3, 4, 1, 0] rfl)
end
section
abbrev b_M_solve : ByteArray := prog_4_method_5_code
def y_M_solve : MethodName := ⟨"PartShelves$Matching", "solve", "()I"⟩
theorem d_M_solve_0 : decode b_M_solve 0 = .ok (.aload_n 0, 1) := by decide +kernel
theorem d_M_solve_1 : decode b_M_solve 1 = .ok (.invokevirtual 56, 3) := by decide +kernel
theorem d_M_solve_4 : decode b_M_solve 4 = .ok (.aload_n 0, 1) := by decide +kernel
theorem d_M_solve_5 : decode b_M_solve 5 = .ok (.aload_n 0, 1) := by decide +kernel
theorem d_M_solve_6 : decode b_M_solve 6 = .ok (.getfield 44, 3) := by decide +kernel
theorem d_M_solve_9 : decode b_M_solve 9 = .ok (.bipush 8, 2) := by decide +kernel
theorem d_M_solve_11 : decode b_M_solve 11 = .ok (.aload_n 0, 1) := by decide +kernel
theorem d_M_solve_12 : decode b_M_solve 12 = .ok (.getfield 41, 3) := by decide +kernel
theorem d_M_solve_15 : decode b_M_solve 15 = .ok (.iconst 1, 1) := by decide +kernel
theorem d_M_solve_16 : decode b_M_solve 16 = .ok (.invokevirtual 59, 3) := by decide +kernel
theorem d_M_solve_19 : decode b_M_solve 19 = .ok (.iconst 1, 1) := by decide +kernel
theorem d_M_solve_20 : decode b_M_solve 20 = .ok (.aload_n 0, 1) := by decide +kernel
theorem d_M_solve_21 : decode b_M_solve 21 = .ok (.getfield 41, 3) := by decide +kernel
theorem d_M_solve_24 : decode b_M_solve 24 = .ok (.ishl, 1) := by decide +kernel
theorem d_M_solve_25 : decode b_M_solve 25 = .ok (.iconst 1, 1) := by decide +kernel
theorem d_M_solve_26 : decode b_M_solve 26 = .ok (.isub, 1) := by decide +kernel
theorem d_M_solve_27 : decode b_M_solve 27 = .ok (.istore_n 1, 1) := by decide +kernel
theorem d_M_solve_28 : decode b_M_solve 28 = .ok (.aload_n 0, 1) := by decide +kernel
theorem d_M_solve_29 : decode b_M_solve 29 = .ok (.aload_n 0, 1) := by decide +kernel
theorem d_M_solve_30 : decode b_M_solve 30 = .ok (.getfield 15, 3) := by decide +kernel
theorem d_M_solve_33 : decode b_M_solve 33 = .ok (.iload_n 1, 1) := by decide +kernel
theorem d_M_solve_34 : decode b_M_solve 34 = .ok (.laload, 1) := by decide +kernel
theorem d_M_solve_35 : decode b_M_solve 35 = .ok (.ldc2_w 63, 3) := by decide +kernel
theorem d_M_solve_38 : decode b_M_solve 38 = .ok (.ldiv, 1) := by decide +kernel
theorem d_M_solve_39 : decode b_M_solve 39 = .ok (.putfield 52, 3) := by decide +kernel
theorem d_M_solve_42 : decode b_M_solve 42 = .ok (.aload_n 0, 1) := by decide +kernel
theorem d_M_solve_43 : decode b_M_solve 43 = .ok (.aload_n 0, 1) := by decide +kernel
theorem d_M_solve_44 : decode b_M_solve 44 = .ok (.getfield 15, 3) := by decide +kernel
theorem d_M_solve_47 : decode b_M_solve 47 = .ok (.iload_n 1, 1) := by decide +kernel
theorem d_M_solve_48 : decode b_M_solve 48 = .ok (.laload, 1) := by decide +kernel
theorem d_M_solve_49 : decode b_M_solve 49 = .ok (.ldc2_w 63, 3) := by decide +kernel
theorem d_M_solve_52 : decode b_M_solve 52 = .ok (.lrem, 1) := by decide +kernel
theorem d_M_solve_53 : decode b_M_solve 53 = .ok (.invokevirtual 65, 3) := by decide +kernel
theorem d_M_solve_56 : decode b_M_solve 56 = .ok (.aload_n 0, 1) := by decide +kernel
theorem d_M_solve_57 : decode b_M_solve 57 = .ok (.aload_n 0, 1) := by decide +kernel
theorem d_M_solve_58 : decode b_M_solve 58 = .ok (.getfield 35, 3) := by decide +kernel
theorem d_M_solve_61 : decode b_M_solve 61 = .ok (.aload_n 0, 1) := by decide +kernel
theorem d_M_solve_62 : decode b_M_solve 62 = .ok (.getfield 41, 3) := by decide +kernel
theorem d_M_solve_65 : decode b_M_solve 65 = .ok (.invokevirtual 69, 3) := by decide +kernel
theorem d_M_solve_68 : decode b_M_solve 68 = .ok (.aload_n 0, 1) := by decide +kernel
theorem d_M_solve_69 : decode b_M_solve 69 = .ok (.aload_n 0, 1) := by decide +kernel
theorem d_M_solve_70 : decode b_M_solve 70 = .ok (.getfield 41, 3) := by decide +kernel
theorem d_M_solve_73 : decode b_M_solve 73 = .ok (.iconst 1, 1) := by decide +kernel
theorem d_M_solve_74 : decode b_M_solve 74 = .ok (.aload_n 0, 1) := by decide +kernel
theorem d_M_solve_75 : decode b_M_solve 75 = .ok (.getfield 44, 3) := by decide +kernel
theorem d_M_solve_78 : decode b_M_solve 78 = .ok (.bipush 8, 2) := by decide +kernel
theorem d_M_solve_80 : decode b_M_solve 80 = .ok (.invokevirtual 59, 3) := by decide +kernel
theorem d_M_solve_83 : decode b_M_solve 83 = .ok (.aload_n 0, 1) := by decide +kernel
theorem d_M_solve_84 : decode b_M_solve 84 = .ok (.aload_n 0, 1) := by decide +kernel
theorem d_M_solve_85 : decode b_M_solve 85 = .ok (.getfield 38, 3) := by decide +kernel
theorem d_M_solve_88 : decode b_M_solve 88 = .ok (.aload_n 0, 1) := by decide +kernel
theorem d_M_solve_89 : decode b_M_solve 89 = .ok (.getfield 44, 3) := by decide +kernel
theorem d_M_solve_92 : decode b_M_solve 92 = .ok (.invokevirtual 69, 3) := by decide +kernel
theorem d_M_solve_95 : decode b_M_solve 95 = .ok (.aload_n 0, 1) := by decide +kernel
theorem d_M_solve_96 : decode b_M_solve 96 = .ok (.getfield 47, 3) := by decide +kernel
theorem d_M_solve_99 : decode b_M_solve 99 = .ok (.ireturn, 1) := by decide +kernel
def w_M_solve : List Cond := .code y_M_solve b_M_solve 2 (some .int) :: ([.methodLink "PartShelves$Matching" 56 ⟨"PartShelves$Matching", "turnWorthsIntoShares", "()V"⟩, .instanceMethod ⟨"PartShelves$Matching", "turnWorthsIntoShares", "()V"⟩, .selects "PartShelves$Matching" ⟨"PartShelves$Matching", "turnWorthsIntoShares", "()V"⟩ ⟨"PartShelves$Matching", "turnWorthsIntoShares", "()V"⟩, .initialized "PartShelves$Matching", .code ⟨"PartShelves$Matching", "turnWorthsIntoShares", "()V"⟩ prog_4_method_9_code 8 none, .fieldLink "PartShelves$Matching" 44 "PartShelves$Matching" "askCount" "I", .fieldLink "PartShelves$Matching" 29 "PartShelves$Matching" "askByRank" "[I", .fieldLink "PartShelves$Matching" 41 "PartShelves$Matching" "partCount" "I", .fieldLink "PartShelves$Matching" 9 "PartShelves$Matching" "shares" "[J", .constantLong "PartShelves$Matching" 50 (-1), .constantLong "PartShelves$Matching" 63 43046721, .constantLong "PartShelves$Matching" 73 9, .methodLink "PartShelves$Matching" 59 ⟨"PartShelves$Matching", "weighSets", "(IIII)V"⟩, .instanceMethod ⟨"PartShelves$Matching", "weighSets", "(IIII)V"⟩, .selects "PartShelves$Matching" ⟨"PartShelves$Matching", "weighSets", "(IIII)V"⟩ ⟨"PartShelves$Matching", "weighSets", "(IIII)V"⟩, .code ⟨"PartShelves$Matching", "weighSets", "(IIII)V"⟩ prog_4_method_10_code 7 none, .fieldLink "PartShelves$Matching" 15 "PartShelves$Matching" "best" "[J", .methodLink "PartShelves$Matching" 75 ⟨"PartShelves$Matching", "collectOptions", "(III)V"⟩, .instanceMethod ⟨"PartShelves$Matching", "collectOptions", "(III)V"⟩, .selects "PartShelves$Matching" ⟨"PartShelves$Matching", "collectOptions", "(III)V"⟩ ⟨"PartShelves$Matching", "collectOptions", "(III)V"⟩, .code ⟨"PartShelves$Matching", "collectOptions", "(III)V"⟩ prog_4_method_11_code 7 none, .fieldLink "PartShelves$Matching" 25 "PartShelves$Matching" "optionCount" "I", .fieldLink "PartShelves$Matching" 18 "PartShelves$Matching" "optionBits" "[I", .fieldLink "PartShelves$Matching" 22 "PartShelves$Matching" "optionShares" "[J", .methodLink "PartShelves$Matching" 79 ⟨"PartShelves$Matching", "addRow", "(I)V"⟩, .instanceMethod ⟨"PartShelves$Matching", "addRow", "(I)V"⟩, .selects "PartShelves$Matching" ⟨"PartShelves$Matching", "addRow", "(I)V"⟩ ⟨"PartShelves$Matching", "addRow", "(I)V"⟩, .code ⟨"PartShelves$Matching", "addRow", "(I)V"⟩ prog_4_method_12_code 7 none, .methodLink "PartShelves$Matching" 83 ⟨"java/lang/Math", "max", "(JJ)J"⟩, .static ⟨"java/lang/Math", "max", "(JJ)J"⟩, .initialized "java/lang/Math", .code ⟨"java/lang/Math", "max", "(JJ)J"⟩ prog_14_method_66_code 4 (some .long), .fieldLink "PartShelves$Matching" 52 "PartShelves$Matching" "total" "J", .methodLink "PartShelves$Matching" 65 ⟨"PartShelves$Matching", "readGiven", "(J)V"⟩, .instanceMethod ⟨"PartShelves$Matching", "readGiven", "(J)V"⟩, .selects "PartShelves$Matching" ⟨"PartShelves$Matching", "readGiven", "(J)V"⟩ ⟨"PartShelves$Matching", "readGiven", "(J)V"⟩, .code ⟨"PartShelves$Matching", "readGiven", "(J)V"⟩ prog_4_method_13_code 7 none, .fieldLink "PartShelves$Matching" 47 "PartShelves$Matching" "pairCount" "I", .fieldLink "PartShelves$Matching" 32 "PartShelves$Matching" "given" "[I", .fieldLink "PartShelves$Matching" 35 "PartShelves$Matching" "partGains" "[J", .methodLink "PartShelves$Matching" 69 ⟨"PartShelves$Matching", "readGains", "([JI)V"⟩, .instanceMethod ⟨"PartShelves$Matching", "readGains", "([JI)V"⟩, .selects "PartShelves$Matching" ⟨"PartShelves$Matching", "readGains", "([JI)V"⟩ ⟨"PartShelves$Matching", "readGains", "([JI)V"⟩, .code ⟨"PartShelves$Matching", "readGains", "([JI)V"⟩ prog_4_method_14_code 5 none, .fieldLink "PartShelves$Matching" 38 "PartShelves$Matching" "askGains" "[J"] ++ u_ws R_M F_M 13)
set_option maxRecDepth 20000 in
theorem g_M_solve_turn : GoodIn w_M_solve (wsV R_M 56 R_M y_M_turnWorthsIntoShares w_M_turnWorthsIntoShares) := goodIn_p _ [5] rfl (by decide +kernel)
set_option maxRecDepth 20000 in
theorem g_M_solve_weigh : GoodIn w_M_solve (wsV R_M 59 R_M y_M_weighSets w_M_weighSets) := goodIn_p _ [16, 21, 28, 32] rfl (by decide +kernel)
set_option maxRecDepth 20000 in
theorem g_M_solve_given : GoodIn w_M_solve (wsV R_M 65 R_M y_M_readGiven w_M_readGiven) := goodIn_p _ [37] rfl (by decide +kernel)
set_option maxRecDepth 20000 in
theorem g_M_solve_gains : GoodIn w_M_solve (wsV R_M 69 R_M y_M_readGains w_M_readGains) := goodIn_p _ [44] rfl (by decide +kernel)
set_option maxHeartbeats 4000000 in
set_option maxRecDepth 100000 in
theorem c_M_solve (l : Launch) (D : va_G) (kC : Nat → ClassId) (ad : Nat → Nat) (sh : Nat → Int64) (be : Nat → Int64) (ob : Nat → Int32) (os : Nat → Int64) (oc : Nat) (ar : Nat → Int32) (gi : Nat → Int32) (pg : Nat → Int64) (ag : Nat → Int64) (pn : Nat) (an : Nat) (prn : Nat) (tot : Int64) (arN : Nat → Nat) (X : Nat) (sz : Nat) (h8p : pn ≤ 8) (h8a : an ≤ 8) (har : ∀ r, r < an → ar r = nI (arN r) ∧ arN r < 8) (hX : (wsB (turnF arN pn an sh (lN 1)) 8 1 pn (2 ^ pn) be os an) (2 ^ pn - 1) = lN X) (hX63 : X < 2 ^ 63) : Met l y_M_solve w_M_solve ({ frames := 3, cells := 0, slots := 0, locals := 67 } : Room) (gPre cls D (tyL kC) [.ref (ad 0)] (fl [(wM kC ad sh be ob os oc ar gi pg ag pn an prn tot)]) sz) (gQi cls D (tyL kC) (fl [(wM kC ad sh be ob os oc ar gi pg ag pn an prn tot)]) sz (nI (gvN an (X % 43046721) 0)) (fl [(wM kC ad (turnF arN pn an sh (lN 1)) (wsB (turnF arN pn an sh (lN 1)) 1 8 an (2 ^ an) (wsB (turnF arN pn an sh (lN 1)) 8 1 pn (2 ^ pn) be os an) (wsOs (turnF arN pn an sh (lN 1)) 8 1 pn os an) pn) (wsOb (turnF arN pn an sh (lN 1)) 1 8 an (wsOb (turnF arN pn an sh (lN 1)) 8 1 pn ob an) pn) (wsOs (turnF arN pn an sh (lN 1)) 1 8 an (wsOs (turnF arN pn an sh (lN 1)) 8 1 pn os an) pn) (wsOc (turnF arN pn an sh (lN 1)) 1 8 an (wsOc (turnF arN pn an sh (lN 1)) 8 1 pn oc an) pn) ar (gvF arN an (X % 43046721) gi) (gnF (wsB (turnF arN pn an sh (lN 1)) 8 1 pn (2 ^ pn) be os an) pg (lN (X / 43046721)) (2 ^ pn) pn) (gnF (wsB (turnF arN pn an sh (lN 1)) 1 8 an (2 ^ an) (wsB (turnF arN pn an sh (lN 1)) 8 1 pn (2 ^ pn) be os an) (wsOs (turnF arN pn an sh (lN 1)) 8 1 pn os an) pn) ag (lN (X / 43046721)) (2 ^ an) an) pn an (gvN an (X % 43046721) 0) (lN (X / 43046721)))])) 0 0 (va_A (fl [(wM kC ad sh be ob os oc ar gi pg ag pn an prn tot)]) sz) := by
  refine Met.ofW (cc := b_M_solve) (maxL := 2) (ret := (some .int)) (by decide) rfl ?_
  intro p e s m args below meth c s₁ B hml hv
  obtain ⟨rfl, hsz, hP, hK, hD0⟩ := hv
  have hx := B.exec
  have hb := B.bytes
  have hr := B.returns
  have hts := atoms_spec (ws := w_M_solve) B.pre
  have hown : s.vm.findClass R_M = some m.cls := findClass_of_methodNamed B.named
  have hlocks := B.notSynchronized
  subst hsz
  obtain ⟨A, hAe⟩ : ∃ A : Nat → Prop, A = va_A (fl [(wM kC ad sh be ob os oc ar gi pg ag pn an prn tot)]) s.heap.size := ⟨_, rfl⟩
  have hD : va_D A (fl [(wM kC ad sh be ob os oc ar gi pg ag pn an prn tot)]) := by rw [hAe]; exact hD0.self
  have hA : ∀ q : Nat, s.heap.size ≤ q → A q := fun q h => by rw [hAe]; exact Or.inr h
  have hS : va_S A s.heap s.heap [] := va_S.rf
  have hl := lv_entry ([.ref (ad 0)]) (n := 2) (Nat.le_of_ble_eq_true rfl)
  rw [lg_entry_eq]
  generalize (lg_sl ([.ref (ad 0)]) ++ List.replicate (2 - (lg_sl ([.ref (ad 0)])).length) Slot.unset).toArray = ls at hl ⊢
  have hl : lv_has ls 2 [(0, .ref (ad 0))] := hl
  obtain ⟨hp0, hp1⟩ := pow_in (rfl : 2 ^ pn = 2 ^ pn) h8p
  refine lv_aload_n hx hb d_M_solve_0 rfl (lv_at hl 0 rfl) ?_
  refine g_callvA (va_runV (As := []) (rest := []) ⟨hx, hb, hml, hown, hts⟩ (c_M_turn l D kC ad sh be ob os oc ar gi pg ag pn an prn tot arN (s.heap).size (h8p) (h8a) (har)) (cwV 0 hts g_M_solve_turn rfl rfl rfl (by decide +kernel) ⟨Nat.le_of_ble_eq_true rfl, Nat.le_of_ble_eq_true rfl⟩) (g_preV (f_recv (ci := 3) (q0 := 0) hK hP 0 rfl rfl rfl) hK hP hD) rfl rfl hl.1 rfl (lv_room (Nat.le_of_ble_eq_true rfl)) d_M_solve_1 ⟨Nat.le_of_ble_eq_true rfl, Nat.le_of_ble_eq_true rfl⟩) hS hA hD (fun H locs hP hD hS => ?_)
  refine W.cs (cells' := 0) (slots' := 0) rfl rfl ?_
  have hP : va_P D cls (fl [(wM kC ad (turnF arN pn an sh (lN 1)) be ob os oc ar gi pg ag pn an prn tot)]) H := hP
  have hD : va_D A (fl [(wM kC ad (turnF arN pn an sh (lN 1)) be ob os oc ar gi pg ag pn an prn tot)]) := hD
  refine lv_aload_n hx hb d_M_solve_4 rfl (lv_at hl 0 rfl) ?_
  refine lv_aload_n hx hb d_M_solve_5 rfl (lv_at hl 0 rfl) ?_
  refine fv_get (ci := 3) (v := .int (nI an)) (C := R_M) (T := F_M) (N := 13) hx hb hts (by decide +kernel) hown hK hP 0 0 rfl rfl rfl 10 (by decide) (hts (.fieldLink R_M 44 "PartShelves$Matching" "askCount" "I") (by decide +kernel)) (fun _ h9 => h9) rfl d_M_solve_6 ?_
  refine lv_bipush (v := nI 8) hx hb d_M_solve_9 (by decide +kernel) ?_
  refine lv_aload_n hx hb d_M_solve_11 rfl (lv_at hl 0 rfl) ?_
  refine fv_get (ci := 3) (v := .int (nI pn)) (C := R_M) (T := F_M) (N := 13) hx hb hts (by decide +kernel) hown hK hP 0 0 rfl rfl rfl 9 (by decide) (hts (.fieldLink R_M 41 "PartShelves$Matching" "partCount" "I") (by decide +kernel)) (fun _ h9 => h9) rfl d_M_solve_12 ?_
  refine lv_iconst (v := nI 1) hx hb d_M_solve_15 (by decide) ?_
  refine g_callvA (va_runV (As := [.int (nI an), .int (nI 8), .int (nI pn), .int (nI 1)]) (rest := []) ⟨hx, hb, hml, hown, hts⟩ (c_M_weigh l D kC ad (turnF arN pn an sh (lN 1)) be ob os oc ar gi pg ag pn an prn tot an 8 pn 1 (H).size (h8p) (h8a) (fun r hr i hi => by omega)) (cwV 4 hts g_M_solve_weigh rfl rfl rfl (by decide +kernel) ⟨Nat.le_of_ble_eq_true rfl, Nat.le_of_ble_eq_true rfl⟩) (g_preV (f_recv (ci := 3) (q0 := 0) hK hP 0 rfl rfl rfl) hK hP hD) rfl rfl hl.1 rfl (lv_room (Nat.le_of_ble_eq_true rfl)) d_M_solve_16 ⟨Nat.le_of_ble_eq_true rfl, Nat.le_of_ble_eq_true rfl⟩) hS hA hD (fun H locs hP hD hS => ?_)
  refine W.cs (cells' := 0) (slots' := 0) rfl rfl ?_
  have hP : va_P D cls (fl [(wM kC ad (turnF arN pn an sh (lN 1)) (wsB (turnF arN pn an sh (lN 1)) 8 1 pn (2 ^ pn) be os an) (wsOb (turnF arN pn an sh (lN 1)) 8 1 pn ob an) (wsOs (turnF arN pn an sh (lN 1)) 8 1 pn os an) (wsOc (turnF arN pn an sh (lN 1)) 8 1 pn oc an) ar gi pg ag pn an prn tot)]) H := hP
  have hD : va_D A (fl [(wM kC ad (turnF arN pn an sh (lN 1)) (wsB (turnF arN pn an sh (lN 1)) 8 1 pn (2 ^ pn) be os an) (wsOb (turnF arN pn an sh (lN 1)) 8 1 pn ob an) (wsOs (turnF arN pn an sh (lN 1)) 8 1 pn os an) (wsOc (turnF arN pn an sh (lN 1)) 8 1 pn oc an) ar gi pg ag pn an prn tot)]) := hD
  refine lv_iconst (v := nI 1) hx hb d_M_solve_19 (by decide) ?_
  refine lv_aload_n hx hb d_M_solve_20 rfl (lv_at hl 0 rfl) ?_
  refine fv_get (ci := 3) (v := .int (nI pn)) (C := R_M) (T := F_M) (N := 13) hx hb hts (by decide +kernel) hown hK hP 0 0 rfl rfl rfl 9 (by decide) (hts (.fieldLink R_M 41 "PartShelves$Matching" "partCount" "I") (by decide +kernel)) (fun _ h9 => h9) rfl d_M_solve_21 ?_
  refine lv_ishl hx hb d_M_solve_24 ?_
  refine nv_topi (y := nI (2 ^ pn)) (shl1 pn (by omega)) ?_
  refine lv_iconst (v := nI 1) hx hb d_M_solve_25 (by decide) ?_
  refine nv_isub hx hb d_M_solve_26 (hp0) ?_
  refine lv_istore_n (lv' := [(1, .int (nI (2 ^ pn - 1))), (0, .ref (ad 0))]) hx hb d_M_solve_27 rfl hl (by decide) rfl (fun ls hl => ?_)
  refine lv_aload_n hx hb d_M_solve_28 rfl (lv_at hl 1 rfl) ?_
  refine lv_aload_n hx hb d_M_solve_29 rfl (lv_at hl 1 rfl) ?_
  refine fv_get (ci := 3) (v := .ref (ad 2)) (C := R_M) (T := F_M) (N := 13) hx hb hts (by decide +kernel) hown hK hP 0 0 rfl rfl rfl 1 (by decide) (hts (.fieldLink R_M 15 "PartShelves$Matching" "best" "[J") (by decide +kernel)) (fun _ h9 => h9) rfl d_M_solve_30 ?_
  refine lv_iload_n hx hb d_M_solve_33 rfl (lv_at hl 0 rfl) ?_
  refine fa_lald hx hb hK hP 0 2 1 rfl rfl rfl (by omega) (by decide) d_M_solve_34 ?_
  refine nv_topl (y := lN X) (hX) ?_
  refine lv_ldc2 (v := 43046721) hx hb hown (hts (.constantLong R_M 63 43046721) (by decide +kernel)) d_M_solve_35 ?_
  refine nv_topl (y := lN 43046721) (by decide +kernel) ?_
  refine nv_ldiv hx hb d_M_solve_38 (by omega) (by omega) (by omega) ?_
  refine fv_put (ci := 3) (v := .long (lN (X / 43046721))) (ty := (.long)) (C := R_M) (T := F_M) (N := 13) hx hb hts (by decide +kernel) t_M t_M_ok n_M hown hK hP hD hS 0 0 rfl rfl rfl 12 (by decide) (hts (.fieldLink R_M 52 "PartShelves$Matching" "total" "J") (by decide +kernel)) (fun _ h9 => h9) rfl (by decide +kernel) (rfl) (rfl) (Nat.le_of_ble_eq_true rfl) d_M_solve_39 (fun H locs hP hD hS => ?_)
  have hP : va_P D cls (fl [(wM kC ad (turnF arN pn an sh (lN 1)) (wsB (turnF arN pn an sh (lN 1)) 8 1 pn (2 ^ pn) be os an) (wsOb (turnF arN pn an sh (lN 1)) 8 1 pn ob an) (wsOs (turnF arN pn an sh (lN 1)) 8 1 pn os an) (wsOc (turnF arN pn an sh (lN 1)) 8 1 pn oc an) ar gi pg ag pn an prn (lN (X / 43046721)))]) H := hP
  have hD : va_D A (fl [(wM kC ad (turnF arN pn an sh (lN 1)) (wsB (turnF arN pn an sh (lN 1)) 8 1 pn (2 ^ pn) be os an) (wsOb (turnF arN pn an sh (lN 1)) 8 1 pn ob an) (wsOs (turnF arN pn an sh (lN 1)) 8 1 pn os an) (wsOc (turnF arN pn an sh (lN 1)) 8 1 pn oc an) ar gi pg ag pn an prn (lN (X / 43046721)))]) := hD
  refine lv_aload_n hx hb d_M_solve_42 rfl (lv_at hl 1 rfl) ?_
  refine lv_aload_n hx hb d_M_solve_43 rfl (lv_at hl 1 rfl) ?_
  refine fv_get (ci := 3) (v := .ref (ad 2)) (C := R_M) (T := F_M) (N := 13) hx hb hts (by decide +kernel) hown hK hP 0 0 rfl rfl rfl 1 (by decide) (hts (.fieldLink R_M 15 "PartShelves$Matching" "best" "[J") (by decide +kernel)) (fun _ h9 => h9) rfl d_M_solve_44 ?_
  refine lv_iload_n hx hb d_M_solve_47 rfl (lv_at hl 0 rfl) ?_
  refine fa_lald hx hb hK hP 0 2 1 rfl rfl rfl (by omega) (by decide) d_M_solve_48 ?_
  refine nv_topl (y := lN X) (hX) ?_
  refine lv_ldc2 (v := 43046721) hx hb hown (hts (.constantLong R_M 63 43046721) (by decide +kernel)) d_M_solve_49 ?_
  refine nv_topl (y := lN 43046721) (by decide +kernel) ?_
  refine nv_lrem hx hb d_M_solve_52 (by omega) (by omega) (by omega) ?_
  refine g_callvA (va_runV (As := [.long (lN (X % 43046721))]) (rest := []) ⟨hx, hb, hml, hown, hts⟩ (c_M_given l D kC ad (turnF arN pn an sh (lN 1)) (wsB (turnF arN pn an sh (lN 1)) 8 1 pn (2 ^ pn) be os an) (wsOb (turnF arN pn an sh (lN 1)) 8 1 pn ob an) (wsOs (turnF arN pn an sh (lN 1)) 8 1 pn os an) (wsOc (turnF arN pn an sh (lN 1)) 8 1 pn oc an) ar gi pg ag pn an prn (lN (X / 43046721)) arN (X % 43046721) (H).size (h8a) (har) (by omega)) (cwV 1 hts g_M_solve_given rfl rfl rfl (by decide +kernel) ⟨Nat.le_of_ble_eq_true rfl, Nat.le_of_ble_eq_true rfl⟩) (g_preV (f_recv (ci := 3) (q0 := 0) hK hP 0 rfl rfl rfl) hK hP hD) rfl rfl hl.1 rfl (lv_room (Nat.le_of_ble_eq_true rfl)) d_M_solve_53 ⟨Nat.le_of_ble_eq_true rfl, Nat.le_of_ble_eq_true rfl⟩) hS hA hD (fun H locs hP hD hS => ?_)
  refine W.cs (cells' := 0) (slots' := 0) rfl rfl ?_
  have hP : va_P D cls (fl [(wM kC ad (turnF arN pn an sh (lN 1)) (wsB (turnF arN pn an sh (lN 1)) 8 1 pn (2 ^ pn) be os an) (wsOb (turnF arN pn an sh (lN 1)) 8 1 pn ob an) (wsOs (turnF arN pn an sh (lN 1)) 8 1 pn os an) (wsOc (turnF arN pn an sh (lN 1)) 8 1 pn oc an) ar (gvF arN an (X % 43046721) gi) pg ag pn an (gvN an (X % 43046721) 0) (lN (X / 43046721)))]) H := hP
  have hD : va_D A (fl [(wM kC ad (turnF arN pn an sh (lN 1)) (wsB (turnF arN pn an sh (lN 1)) 8 1 pn (2 ^ pn) be os an) (wsOb (turnF arN pn an sh (lN 1)) 8 1 pn ob an) (wsOs (turnF arN pn an sh (lN 1)) 8 1 pn os an) (wsOc (turnF arN pn an sh (lN 1)) 8 1 pn oc an) ar (gvF arN an (X % 43046721) gi) pg ag pn an (gvN an (X % 43046721) 0) (lN (X / 43046721)))]) := hD
  refine lv_aload_n hx hb d_M_solve_56 rfl (lv_at hl 1 rfl) ?_
  refine lv_aload_n hx hb d_M_solve_57 rfl (lv_at hl 1 rfl) ?_
  refine fv_get (ci := 3) (v := .ref (ad 7)) (C := R_M) (T := F_M) (N := 13) hx hb hts (by decide +kernel) hown hK hP 0 0 rfl rfl rfl 7 (by decide) (hts (.fieldLink R_M 35 "PartShelves$Matching" "partGains" "[J") (by decide +kernel)) (fun _ h9 => h9) rfl d_M_solve_58 ?_
  refine lv_aload_n hx hb d_M_solve_61 rfl (lv_at hl 1 rfl) ?_
  refine fv_get (ci := 3) (v := .int (nI pn)) (C := R_M) (T := F_M) (N := 13) hx hb hts (by decide +kernel) hown hK hP 0 0 rfl rfl rfl 9 (by decide) (hts (.fieldLink R_M 41 "PartShelves$Matching" "partCount" "I") (by decide +kernel)) (fun _ h9 => h9) rfl d_M_solve_62 ?_
  refine g_callvA (va_runV (As := [.ref (ad 7), .int (nI pn)]) (rest := []) ⟨hx, hb, hml, hown, hts⟩ (c_M_gainsP l D kC ad (turnF arN pn an sh (lN 1)) (wsB (turnF arN pn an sh (lN 1)) 8 1 pn (2 ^ pn) be os an) (wsOb (turnF arN pn an sh (lN 1)) 8 1 pn ob an) (wsOs (turnF arN pn an sh (lN 1)) 8 1 pn os an) (wsOc (turnF arN pn an sh (lN 1)) 8 1 pn oc an) ar (gvF arN an (X % 43046721) gi) pg ag pn an (gvN an (X % 43046721) 0) (lN (X / 43046721)) pn (H).size (h8p)) (cwV 2 hts g_M_solve_gains rfl rfl rfl (by decide +kernel) ⟨Nat.le_of_ble_eq_true rfl, Nat.le_of_ble_eq_true rfl⟩) (g_preV (f_recv (ci := 3) (q0 := 0) hK hP 0 rfl rfl rfl) hK hP hD) rfl rfl hl.1 rfl (lv_room (Nat.le_of_ble_eq_true rfl)) d_M_solve_65 ⟨Nat.le_of_ble_eq_true rfl, Nat.le_of_ble_eq_true rfl⟩) hS hA hD (fun H locs hP hD hS => ?_)
  refine W.cs (cells' := 0) (slots' := 0) rfl rfl ?_
  have hP : va_P D cls (fl [(wM kC ad (turnF arN pn an sh (lN 1)) (wsB (turnF arN pn an sh (lN 1)) 8 1 pn (2 ^ pn) be os an) (wsOb (turnF arN pn an sh (lN 1)) 8 1 pn ob an) (wsOs (turnF arN pn an sh (lN 1)) 8 1 pn os an) (wsOc (turnF arN pn an sh (lN 1)) 8 1 pn oc an) ar (gvF arN an (X % 43046721) gi) (gnF (wsB (turnF arN pn an sh (lN 1)) 8 1 pn (2 ^ pn) be os an) pg (lN (X / 43046721)) (2 ^ pn) pn) ag pn an (gvN an (X % 43046721) 0) (lN (X / 43046721)))]) H := hP
  have hD : va_D A (fl [(wM kC ad (turnF arN pn an sh (lN 1)) (wsB (turnF arN pn an sh (lN 1)) 8 1 pn (2 ^ pn) be os an) (wsOb (turnF arN pn an sh (lN 1)) 8 1 pn ob an) (wsOs (turnF arN pn an sh (lN 1)) 8 1 pn os an) (wsOc (turnF arN pn an sh (lN 1)) 8 1 pn oc an) ar (gvF arN an (X % 43046721) gi) (gnF (wsB (turnF arN pn an sh (lN 1)) 8 1 pn (2 ^ pn) be os an) pg (lN (X / 43046721)) (2 ^ pn) pn) ag pn an (gvN an (X % 43046721) 0) (lN (X / 43046721)))]) := hD
  refine lv_aload_n hx hb d_M_solve_68 rfl (lv_at hl 1 rfl) ?_
  refine lv_aload_n hx hb d_M_solve_69 rfl (lv_at hl 1 rfl) ?_
  refine fv_get (ci := 3) (v := .int (nI pn)) (C := R_M) (T := F_M) (N := 13) hx hb hts (by decide +kernel) hown hK hP 0 0 rfl rfl rfl 9 (by decide) (hts (.fieldLink R_M 41 "PartShelves$Matching" "partCount" "I") (by decide +kernel)) (fun _ h9 => h9) rfl d_M_solve_70 ?_
  refine lv_iconst (v := nI 1) hx hb d_M_solve_73 (by decide) ?_
  refine lv_aload_n hx hb d_M_solve_74 rfl (lv_at hl 1 rfl) ?_
  refine fv_get (ci := 3) (v := .int (nI an)) (C := R_M) (T := F_M) (N := 13) hx hb hts (by decide +kernel) hown hK hP 0 0 rfl rfl rfl 10 (by decide) (hts (.fieldLink R_M 44 "PartShelves$Matching" "askCount" "I") (by decide +kernel)) (fun _ h9 => h9) rfl d_M_solve_75 ?_
  refine lv_bipush (v := nI 8) hx hb d_M_solve_78 (by decide +kernel) ?_
  refine g_callvA (va_runV (As := [.int (nI pn), .int (nI 1), .int (nI an), .int (nI 8)]) (rest := []) ⟨hx, hb, hml, hown, hts⟩ (c_M_weigh l D kC ad (turnF arN pn an sh (lN 1)) (wsB (turnF arN pn an sh (lN 1)) 8 1 pn (2 ^ pn) be os an) (wsOb (turnF arN pn an sh (lN 1)) 8 1 pn ob an) (wsOs (turnF arN pn an sh (lN 1)) 8 1 pn os an) (wsOc (turnF arN pn an sh (lN 1)) 8 1 pn oc an) ar (gvF arN an (X % 43046721) gi) (gnF (wsB (turnF arN pn an sh (lN 1)) 8 1 pn (2 ^ pn) be os an) pg (lN (X / 43046721)) (2 ^ pn) pn) ag pn an (gvN an (X % 43046721) 0) (lN (X / 43046721)) pn 1 an 8 (H).size (h8a) (h8p) (fun r hr i hi => by omega)) (cwV 4 hts g_M_solve_weigh rfl rfl rfl (by decide +kernel) ⟨Nat.le_of_ble_eq_true rfl, Nat.le_of_ble_eq_true rfl⟩) (g_preV (f_recv (ci := 3) (q0 := 0) hK hP 0 rfl rfl rfl) hK hP hD) rfl rfl hl.1 rfl (lv_room (Nat.le_of_ble_eq_true rfl)) d_M_solve_80 ⟨Nat.le_of_ble_eq_true rfl, Nat.le_of_ble_eq_true rfl⟩) hS hA hD (fun H locs hP hD hS => ?_)
  refine W.cs (cells' := 0) (slots' := 0) rfl rfl ?_
  have hP : va_P D cls (fl [(wM kC ad (turnF arN pn an sh (lN 1)) (wsB (turnF arN pn an sh (lN 1)) 1 8 an (2 ^ an) (wsB (turnF arN pn an sh (lN 1)) 8 1 pn (2 ^ pn) be os an) (wsOs (turnF arN pn an sh (lN 1)) 8 1 pn os an) pn) (wsOb (turnF arN pn an sh (lN 1)) 1 8 an (wsOb (turnF arN pn an sh (lN 1)) 8 1 pn ob an) pn) (wsOs (turnF arN pn an sh (lN 1)) 1 8 an (wsOs (turnF arN pn an sh (lN 1)) 8 1 pn os an) pn) (wsOc (turnF arN pn an sh (lN 1)) 1 8 an (wsOc (turnF arN pn an sh (lN 1)) 8 1 pn oc an) pn) ar (gvF arN an (X % 43046721) gi) (gnF (wsB (turnF arN pn an sh (lN 1)) 8 1 pn (2 ^ pn) be os an) pg (lN (X / 43046721)) (2 ^ pn) pn) ag pn an (gvN an (X % 43046721) 0) (lN (X / 43046721)))]) H := hP
  have hD : va_D A (fl [(wM kC ad (turnF arN pn an sh (lN 1)) (wsB (turnF arN pn an sh (lN 1)) 1 8 an (2 ^ an) (wsB (turnF arN pn an sh (lN 1)) 8 1 pn (2 ^ pn) be os an) (wsOs (turnF arN pn an sh (lN 1)) 8 1 pn os an) pn) (wsOb (turnF arN pn an sh (lN 1)) 1 8 an (wsOb (turnF arN pn an sh (lN 1)) 8 1 pn ob an) pn) (wsOs (turnF arN pn an sh (lN 1)) 1 8 an (wsOs (turnF arN pn an sh (lN 1)) 8 1 pn os an) pn) (wsOc (turnF arN pn an sh (lN 1)) 1 8 an (wsOc (turnF arN pn an sh (lN 1)) 8 1 pn oc an) pn) ar (gvF arN an (X % 43046721) gi) (gnF (wsB (turnF arN pn an sh (lN 1)) 8 1 pn (2 ^ pn) be os an) pg (lN (X / 43046721)) (2 ^ pn) pn) ag pn an (gvN an (X % 43046721) 0) (lN (X / 43046721)))]) := hD
  refine lv_aload_n hx hb d_M_solve_83 rfl (lv_at hl 1 rfl) ?_
  refine lv_aload_n hx hb d_M_solve_84 rfl (lv_at hl 1 rfl) ?_
  refine fv_get (ci := 3) (v := .ref (ad 8)) (C := R_M) (T := F_M) (N := 13) hx hb hts (by decide +kernel) hown hK hP 0 0 rfl rfl rfl 8 (by decide) (hts (.fieldLink R_M 38 "PartShelves$Matching" "askGains" "[J") (by decide +kernel)) (fun _ h9 => h9) rfl d_M_solve_85 ?_
  refine lv_aload_n hx hb d_M_solve_88 rfl (lv_at hl 1 rfl) ?_
  refine fv_get (ci := 3) (v := .int (nI an)) (C := R_M) (T := F_M) (N := 13) hx hb hts (by decide +kernel) hown hK hP 0 0 rfl rfl rfl 10 (by decide) (hts (.fieldLink R_M 44 "PartShelves$Matching" "askCount" "I") (by decide +kernel)) (fun _ h9 => h9) rfl d_M_solve_89 ?_
  refine g_callvA (va_runV (As := [.ref (ad 8), .int (nI an)]) (rest := []) ⟨hx, hb, hml, hown, hts⟩ (c_M_gainsA l D kC ad (turnF arN pn an sh (lN 1)) (wsB (turnF arN pn an sh (lN 1)) 1 8 an (2 ^ an) (wsB (turnF arN pn an sh (lN 1)) 8 1 pn (2 ^ pn) be os an) (wsOs (turnF arN pn an sh (lN 1)) 8 1 pn os an) pn) (wsOb (turnF arN pn an sh (lN 1)) 1 8 an (wsOb (turnF arN pn an sh (lN 1)) 8 1 pn ob an) pn) (wsOs (turnF arN pn an sh (lN 1)) 1 8 an (wsOs (turnF arN pn an sh (lN 1)) 8 1 pn os an) pn) (wsOc (turnF arN pn an sh (lN 1)) 1 8 an (wsOc (turnF arN pn an sh (lN 1)) 8 1 pn oc an) pn) ar (gvF arN an (X % 43046721) gi) (gnF (wsB (turnF arN pn an sh (lN 1)) 8 1 pn (2 ^ pn) be os an) pg (lN (X / 43046721)) (2 ^ pn) pn) ag pn an (gvN an (X % 43046721) 0) (lN (X / 43046721)) an (H).size (h8a)) (cwV 2 hts g_M_solve_gains rfl rfl rfl (by decide +kernel) ⟨Nat.le_of_ble_eq_true rfl, Nat.le_of_ble_eq_true rfl⟩) (g_preV (f_recv (ci := 3) (q0 := 0) hK hP 0 rfl rfl rfl) hK hP hD) rfl rfl hl.1 rfl (lv_room (Nat.le_of_ble_eq_true rfl)) d_M_solve_92 ⟨Nat.le_of_ble_eq_true rfl, Nat.le_of_ble_eq_true rfl⟩) hS hA hD (fun H locs hP hD hS => ?_)
  refine W.cs (cells' := 0) (slots' := 0) rfl rfl ?_
  have hP : va_P D cls (fl [(wM kC ad (turnF arN pn an sh (lN 1)) (wsB (turnF arN pn an sh (lN 1)) 1 8 an (2 ^ an) (wsB (turnF arN pn an sh (lN 1)) 8 1 pn (2 ^ pn) be os an) (wsOs (turnF arN pn an sh (lN 1)) 8 1 pn os an) pn) (wsOb (turnF arN pn an sh (lN 1)) 1 8 an (wsOb (turnF arN pn an sh (lN 1)) 8 1 pn ob an) pn) (wsOs (turnF arN pn an sh (lN 1)) 1 8 an (wsOs (turnF arN pn an sh (lN 1)) 8 1 pn os an) pn) (wsOc (turnF arN pn an sh (lN 1)) 1 8 an (wsOc (turnF arN pn an sh (lN 1)) 8 1 pn oc an) pn) ar (gvF arN an (X % 43046721) gi) (gnF (wsB (turnF arN pn an sh (lN 1)) 8 1 pn (2 ^ pn) be os an) pg (lN (X / 43046721)) (2 ^ pn) pn) (gnF (wsB (turnF arN pn an sh (lN 1)) 1 8 an (2 ^ an) (wsB (turnF arN pn an sh (lN 1)) 8 1 pn (2 ^ pn) be os an) (wsOs (turnF arN pn an sh (lN 1)) 8 1 pn os an) pn) ag (lN (X / 43046721)) (2 ^ an) an) pn an (gvN an (X % 43046721) 0) (lN (X / 43046721)))]) H := hP
  have hD : va_D A (fl [(wM kC ad (turnF arN pn an sh (lN 1)) (wsB (turnF arN pn an sh (lN 1)) 1 8 an (2 ^ an) (wsB (turnF arN pn an sh (lN 1)) 8 1 pn (2 ^ pn) be os an) (wsOs (turnF arN pn an sh (lN 1)) 8 1 pn os an) pn) (wsOb (turnF arN pn an sh (lN 1)) 1 8 an (wsOb (turnF arN pn an sh (lN 1)) 8 1 pn ob an) pn) (wsOs (turnF arN pn an sh (lN 1)) 1 8 an (wsOs (turnF arN pn an sh (lN 1)) 8 1 pn os an) pn) (wsOc (turnF arN pn an sh (lN 1)) 1 8 an (wsOc (turnF arN pn an sh (lN 1)) 8 1 pn oc an) pn) ar (gvF arN an (X % 43046721) gi) (gnF (wsB (turnF arN pn an sh (lN 1)) 8 1 pn (2 ^ pn) be os an) pg (lN (X / 43046721)) (2 ^ pn) pn) (gnF (wsB (turnF arN pn an sh (lN 1)) 1 8 an (2 ^ an) (wsB (turnF arN pn an sh (lN 1)) 8 1 pn (2 ^ pn) be os an) (wsOs (turnF arN pn an sh (lN 1)) 8 1 pn os an) pn) ag (lN (X / 43046721)) (2 ^ an) an) pn an (gvN an (X % 43046721) 0) (lN (X / 43046721)))]) := hD
  refine lv_aload_n hx hb d_M_solve_95 rfl (lv_at hl 1 rfl) ?_
  refine fv_get (ci := 3) (v := .int (nI (gvN an (X % 43046721) 0))) (C := R_M) (T := F_M) (N := 13) hx hb hts (by decide +kernel) hown hK hP 0 0 rfl rfl rfl 11 (by decide) (hts (.fieldLink R_M 47 "PartShelves$Matching" "pairCount" "I") (by decide +kernel)) (fun _ h9 => h9) rfl d_M_solve_96 ?_
  exact W.iret (v := nI (gvN an (X % 43046721) 0)) hx hb hr (fun t ht hW => by subst hAe; exact ⟨⟨(nI (gvN an (X % 43046721) 0)), (), rfl, rfl, by rw [ht]; exact hP, va_K.moved hW.alike hK, hD⟩, hS.F ht⟩) (by subst hAe; exact hS.2.2) d_M_solve_99
end
section
/-- the price rows -/
def wR (kC : Nat → ClassId) (ad : Nat → Nat) (ra : Nat → Int32) (rc : Nat → Int64) (rn : Nat) : va_W := [(ad 0, .inr (5, [.ref (ad 1), .ref (ad 2), .int (nI rn)])), (ad 1, .inl (kC 0, 6, .inl ra)), (ad 2, .inl (kC 1, 6, .inr (.inl rc)))]
/-- the price of an age: the last row that is not above it -/
def prAt (ra : Nat → Int32) (rc : Nat → Int64) (x : Int32) : Nat → Int64
  | 0 => lN 0
  | k + 1 => if ra k ≤ x then rc k else prAt ra rc x k
/-- whether one more row may come -/
abbrev rowOk (ra : Nat → Int32) (rn : Nat) (x : Int32) : Prop := rn < 6 ∧ (rn = 0 ∨ ra (rn - 1) < x)
abbrev b_R_at : ByteArray := prog_6_method_3_code
def y_R_at : MethodName := ⟨"PartShelves$PriceRows", "at", "(I)J"⟩
theorem d_R_at_0 : decode b_R_at 0 = .ok (.aload_n 0, 1) := by decide +kernel
theorem d_R_at_1 : decode b_R_at 1 = .ok (.getfield 19, 3) := by decide +kernel
theorem d_R_at_4 : decode b_R_at 4 = .ok (.iconst 1, 1) := by decide +kernel
theorem d_R_at_5 : decode b_R_at 5 = .ok (.isub, 1) := by decide +kernel
theorem d_R_at_6 : decode b_R_at 6 = .ok (.istore_n 2, 1) := by decide +kernel
theorem d_R_at_7 : decode b_R_at 7 = .ok (.iload_n 2, 1) := by decide +kernel
theorem d_R_at_8 : decode b_R_at 8 = .ok (.ifCond .lt 26, 3) := by decide +kernel
theorem d_R_at_11 : decode b_R_at 11 = .ok (.aload_n 0, 1) := by decide +kernel
theorem d_R_at_12 : decode b_R_at 12 = .ok (.getfield 9, 3) := by decide +kernel
theorem d_R_at_15 : decode b_R_at 15 = .ok (.iload_n 2, 1) := by decide +kernel
theorem d_R_at_16 : decode b_R_at 16 = .ok (.iaload, 1) := by decide +kernel
theorem d_R_at_17 : decode b_R_at 17 = .ok (.iload_n 1, 1) := by decide +kernel
theorem d_R_at_18 : decode b_R_at 18 = .ok (.if_icmp .gt 10, 3) := by decide +kernel
theorem d_R_at_21 : decode b_R_at 21 = .ok (.aload_n 0, 1) := by decide +kernel
theorem d_R_at_22 : decode b_R_at 22 = .ok (.getfield 15, 3) := by decide +kernel
theorem d_R_at_25 : decode b_R_at 25 = .ok (.iload_n 2, 1) := by decide +kernel
theorem d_R_at_26 : decode b_R_at 26 = .ok (.laload, 1) := by decide +kernel
theorem d_R_at_27 : decode b_R_at 27 = .ok (.lreturn, 1) := by decide +kernel
theorem d_R_at_28 : decode b_R_at 28 = .ok (.iinc 2 (-1), 3) := by decide +kernel
theorem d_R_at_31 : decode b_R_at 31 = .ok (.goto (-24), 3) := by decide +kernel
theorem d_R_at_34 : decode b_R_at 34 = .ok (.lconst 0, 1) := by decide +kernel
theorem d_R_at_35 : decode b_R_at 35 = .ok (.lreturn, 1) := by decide +kernel
def w_R_at : List Cond := .code y_R_at b_R_at 3 (some .long) :: ([.fieldLink "PartShelves$PriceRows" 19 "PartShelves$PriceRows" "count" "I", .fieldLink "PartShelves$PriceRows" 9 "PartShelves$PriceRows" "ages" "[I", .fieldLink "PartShelves$PriceRows" 15 "PartShelves$PriceRows" "cents" "[J"] ++ u_ws R_R F_R 3)
set_option maxHeartbeats 4000000 in
set_option maxRecDepth 100000 in
theorem c_R_at (l : Launch) (D : va_G) (kC : Nat → ClassId) (ad : Nat → Nat) (ra : Nat → Int32) (rc : Nat → Int64) (rn : Nat) (x : Int32) (h6 : rn ≤ 6) : Met l y_R_at w_R_at ({ frames := 0, cells := 0, slots := 0, locals := 0 } : Room) (gPr cls D (tyL kC) [.ref (ad 0), .int x] (fl [(wR kC ad ra rc rn)])) (vp_Sl (fun r => r = prAt ra rc x rn)) 0 0 (fun _ => False) := by
  refine Met.ofW (cc := b_R_at) (maxL := 3) (ret := (some .long)) (by decide) rfl ?_
  intro p e s m args below meth c s₁ B hml hv
  obtain ⟨rfl, hP, hK⟩ := hv
  have hx := B.exec
  have hb := B.bytes
  have hr := B.returns
  have hts := atoms_spec (ws := w_R_at) B.pre
  have hown : s.vm.findClass R_R = some m.cls := findClass_of_methodNamed B.named
  have hlocks := B.notSynchronized
  have hl := lv_entry ([.ref (ad 0), .int x]) (n := 3) (Nat.le_of_ble_eq_true rfl)
  rw [lg_entry_eq]
  generalize (lg_sl ([.ref (ad 0), .int x]) ++ List.replicate (3 - (lg_sl ([.ref (ad 0), .int x])).length) Slot.unset).toArray = ls at hl ⊢
  have hl : lv_has ls 3 [(0, .ref (ad 0)), (1, .int x)] := hl
  refine lv_aload_n hx hb d_R_at_0 rfl (lv_at hl 0 rfl) ?_
  refine fv_get (ci := 5) (v := .int (nI rn)) (C := R_R) (T := F_R) (N := 3) hx hb hts (by decide +kernel) hown hK hP 0 0 rfl rfl rfl 2 (by decide) (hts (.fieldLink R_R 19 "PartShelves$PriceRows" "count" "I") (by decide +kernel)) (fun _ h9 => h9) rfl d_R_at_1 ?_
  refine lv_iconst (v := nI 1) hx hb d_R_at_4 (by decide) ?_
  refine lv_isub hx hb d_R_at_5 ?_
  refine lv_istore_n (lv' := [(2, .int ((nI rn) - (nI 1))), (0, .ref (ad 0)), (1, .int x)]) hx hb d_R_at_6 rfl hl (by decide) rfl (fun ls hl => ?_)
  have L7 : ∀ (n7 : Nat) (k : Nat), k < n7 → k ≤ rn → prAt ra rc x k = prAt ra rc x rn → ∀ (ls : Array Slot), lv_has ls 3 [(0, .ref (ad 0)), (1, .int x), (2, .int (nI k - nI 1))] → W p l e (headSpec w_R_at ({ frames := 0, cells := 0, slots := 0, locals := 0 } : Room)).room s m ([.ref (ad 0), .int x] : List Value).toArray below meth c s.heap [] 0 0 (MQ below (vp_Sl (fun r => r = prAt ra rc x rn)) ([.ref (ad 0), .int x] : List Value).toArray s 0 0 (fun _ => False)) (F0 m 7 ls []) := by
    intro n7
    induction n7 with
    | zero =>
      intro k hm
      exact absurd hm (Nat.not_lt_zero _)
    | succ n7 ih7 =>
      intro k hm hkn hT ls hl
      refine lv_iload_n hx hb d_R_at_7 rfl (lv_at hl 2 rfl) ?_
      refine lv_if_lt (tgt := 34) hx hb d_R_at_8 (by decide) (fun hk => ?_) (fun hk => ?_)
      · obtain rfl : k = 0 := (rk_neg (by omega)).mp hk
        refine lv_lconst (v := lN 0) hx hb d_R_at_34 (by decide) ?_
        exact W.lret (v := lN 0) hx hb hr (fun t ht hW => ⟨_, rfl, hT, ht⟩) t_nil d_R_at_35
      · obtain ⟨j, rfl⟩ := rk_pos (by omega) hk
        have el1 : nI (j + 1) - nI 1 = nI j := nI_pred j
        have hl : lv_has ls 3 [(0, .ref (ad 0)), (1, .int x), (2, .int (nI j))] := by rw [← el1]; exact hl
        refine lv_aload_n hx hb d_R_at_11 rfl (lv_at hl 0 rfl) ?_
        refine fv_get (ci := 5) (v := .ref (ad 1)) (C := R_R) (T := F_R) (N := 3) hx hb hts (by decide +kernel) hown hK hP 0 0 rfl rfl rfl 0 (by decide) (hts (.fieldLink R_R 9 "PartShelves$PriceRows" "ages" "[I") (by decide +kernel)) (fun _ h9 => h9) rfl d_R_at_12 ?_
        refine lv_iload_n hx hb d_R_at_15 rfl (lv_at hl 2 rfl) ?_
        refine fa_iald hx hb hK hP 0 1 0 rfl rfl rfl (by omega) (by decide) d_R_at_16 ?_
        refine lv_iload_n hx hb d_R_at_17 rfl (lv_at hl 1 rfl) ?_
        refine lv_icmp_gt (tgt := 28) hx hb d_R_at_18 (by decide) (fun hc => ?_) (fun hc => ?_)
        · refine lv_iinc (v := (nI j) - nI 1) (lv' := [(2, .int ((nI j) - nI 1)), (0, .ref (ad 0)), (1, .int x)]) hx hb d_R_at_28 hl (k := 2) rfl (by rw [Int32.sub_eq_add_neg]; rfl) (by decide) rfl (fun ls hl => ?_)
          refine lv_goto (tgt := 7) hx hb d_R_at_31 (by decide) ?_
          exact ih7 j (by omega) (by omega) (by rw [← hT]; exact (if_neg (by simpa using hc)).symm) ls (lv_sub hl [1, 2, 0] rfl)
        · refine lv_aload_n hx hb d_R_at_21 rfl (lv_at hl 0 rfl) ?_
          refine fv_get (ci := 5) (v := .ref (ad 2)) (C := R_R) (T := F_R) (N := 3) hx hb hts (by decide +kernel) hown hK hP 0 0 rfl rfl rfl 1 (by decide) (hts (.fieldLink R_R 15 "PartShelves$PriceRows" "cents" "[J") (by decide +kernel)) (fun _ h9 => h9) rfl d_R_at_22 ?_
          refine lv_iload_n hx hb d_R_at_25 rfl (lv_at hl 2 rfl) ?_
          refine fa_lald hx hb hK hP 0 2 1 rfl rfl rfl (by omega) (by decide) d_R_at_26 ?_
          exact W.lret (v := rc j) hx hb hr (fun t ht hW => ⟨_, rfl, by rw [← hT]; exact (if_pos (by simpa using hc)).symm, ht⟩) t_nil d_R_at_27
  exact L7 _ rn (Nat.lt_succ_self _) (Nat.le_refl _) (rfl) ls (lv_sub hl [1, 2, 0] rfl)

abbrev b_R_append : ByteArray := prog_6_method_2_code
def y_R_append : MethodName := ⟨"PartShelves$PriceRows", "append", "(IJ)Z"⟩
theorem d_R_append_0 : decode b_R_append 0 = .ok (.aload_n 0, 1) := by decide +kernel
theorem d_R_append_1 : decode b_R_append 1 = .ok (.getfield 19, 3) := by decide +kernel
theorem d_R_append_4 : decode b_R_append 4 = .ok (.bipush 6, 2) := by decide +kernel
theorem d_R_append_6 : decode b_R_append 6 = .ok (.if_icmp .ge 25, 3) := by decide +kernel
theorem d_R_append_9 : decode b_R_append 9 = .ok (.aload_n 0, 1) := by decide +kernel
theorem d_R_append_10 : decode b_R_append 10 = .ok (.getfield 19, 3) := by decide +kernel
theorem d_R_append_13 : decode b_R_append 13 = .ok (.ifCond .le 20, 3) := by decide +kernel
theorem d_R_append_16 : decode b_R_append 16 = .ok (.iload_n 1, 1) := by decide +kernel
theorem d_R_append_17 : decode b_R_append 17 = .ok (.aload_n 0, 1) := by decide +kernel
theorem d_R_append_18 : decode b_R_append 18 = .ok (.getfield 9, 3) := by decide +kernel
theorem d_R_append_21 : decode b_R_append 21 = .ok (.aload_n 0, 1) := by decide +kernel
theorem d_R_append_22 : decode b_R_append 22 = .ok (.getfield 19, 3) := by decide +kernel
theorem d_R_append_25 : decode b_R_append 25 = .ok (.iconst 1, 1) := by decide +kernel
theorem d_R_append_26 : decode b_R_append 26 = .ok (.isub, 1) := by decide +kernel
theorem d_R_append_27 : decode b_R_append 27 = .ok (.iaload, 1) := by decide +kernel
theorem d_R_append_28 : decode b_R_append 28 = .ok (.if_icmp .gt 5, 3) := by decide +kernel
theorem d_R_append_31 : decode b_R_append 31 = .ok (.iconst 0, 1) := by decide +kernel
theorem d_R_append_32 : decode b_R_append 32 = .ok (.ireturn, 1) := by decide +kernel
theorem d_R_append_33 : decode b_R_append 33 = .ok (.aload_n 0, 1) := by decide +kernel
theorem d_R_append_34 : decode b_R_append 34 = .ok (.getfield 9, 3) := by decide +kernel
theorem d_R_append_37 : decode b_R_append 37 = .ok (.aload_n 0, 1) := by decide +kernel
theorem d_R_append_38 : decode b_R_append 38 = .ok (.getfield 19, 3) := by decide +kernel
theorem d_R_append_41 : decode b_R_append 41 = .ok (.iload_n 1, 1) := by decide +kernel
theorem d_R_append_42 : decode b_R_append 42 = .ok (.iastore, 1) := by decide +kernel
theorem d_R_append_43 : decode b_R_append 43 = .ok (.aload_n 0, 1) := by decide +kernel
theorem d_R_append_44 : decode b_R_append 44 = .ok (.getfield 15, 3) := by decide +kernel
theorem d_R_append_47 : decode b_R_append 47 = .ok (.aload_n 0, 1) := by decide +kernel
theorem d_R_append_48 : decode b_R_append 48 = .ok (.getfield 19, 3) := by decide +kernel
theorem d_R_append_51 : decode b_R_append 51 = .ok (.lload_n 2, 1) := by decide +kernel
theorem d_R_append_52 : decode b_R_append 52 = .ok (.lastore, 1) := by decide +kernel
theorem d_R_append_53 : decode b_R_append 53 = .ok (.aload_n 0, 1) := by decide +kernel
theorem d_R_append_54 : decode b_R_append 54 = .ok (.dup, 1) := by decide +kernel
theorem d_R_append_55 : decode b_R_append 55 = .ok (.getfield 19, 3) := by decide +kernel
theorem d_R_append_58 : decode b_R_append 58 = .ok (.iconst 1, 1) := by decide +kernel
theorem d_R_append_59 : decode b_R_append 59 = .ok (.iadd, 1) := by decide +kernel
theorem d_R_append_60 : decode b_R_append 60 = .ok (.putfield 19, 3) := by decide +kernel
theorem d_R_append_63 : decode b_R_append 63 = .ok (.iconst 1, 1) := by decide +kernel
theorem d_R_append_64 : decode b_R_append 64 = .ok (.ireturn, 1) := by decide +kernel
def w_R_append : List Cond := .code y_R_append b_R_append 4 (some .boolean) :: ([.fieldLink "PartShelves$PriceRows" 19 "PartShelves$PriceRows" "count" "I", .fieldLink "PartShelves$PriceRows" 9 "PartShelves$PriceRows" "ages" "[I", .fieldLink "PartShelves$PriceRows" 15 "PartShelves$PriceRows" "cents" "[J"] ++ u_ws R_R F_R 3)
set_option maxHeartbeats 4000000 in
set_option maxRecDepth 100000 in
theorem c_R_append (l : Launch) (D : va_G) (kC : Nat → ClassId) (ad : Nat → Nat) (ra : Nat → Int32) (rc : Nat → Int64) (rn : Nat) (x : Int32) (v : Int64) (sz : Nat) (h6 : rn ≤ 6) : Met l y_R_append w_R_append ({ frames := 0, cells := 0, slots := 0, locals := 0 } : Room) (gPre cls D (tyL kC) [.ref (ad 0), .int x, .long v] (fl [(wR kC ad ra rc rn)]) sz) (gQi cls D (tyL kC) (fl [(wR kC ad ra rc rn)]) sz (bI (rowOk ra rn x)) (fl [(wR kC ad (if rowOk ra rn x then upd ra rn x else ra) (if rowOk ra rn x then vp_updL rc rn v else rc) (if rowOk ra rn x then rn + 1 else rn))])) 0 0 (va_A (fl [(wR kC ad ra rc rn)]) sz) := by
  refine Met.ofW (cc := b_R_append) (maxL := 4) (ret := (some .boolean)) (by decide) rfl ?_
  intro p e s m args below meth c s₁ B hml hv
  obtain ⟨rfl, hsz, hP, hK, hD0⟩ := hv
  have hx := B.exec
  have hb := B.bytes
  have hr := B.returns
  have hts := atoms_spec (ws := w_R_append) B.pre
  have hown : s.vm.findClass R_R = some m.cls := findClass_of_methodNamed B.named
  have hlocks := B.notSynchronized
  subst hsz
  obtain ⟨A, hAe⟩ : ∃ A : Nat → Prop, A = va_A (fl [(wR kC ad ra rc rn)]) s.heap.size := ⟨_, rfl⟩
  have hD : va_D A (fl [(wR kC ad ra rc rn)]) := by rw [hAe]; exact hD0.self
  have hA : ∀ q : Nat, s.heap.size ≤ q → A q := fun q h => by rw [hAe]; exact Or.inr h
  have hS : va_S A s.heap s.heap [] := va_S.rf
  have hl := lv_entry ([.ref (ad 0), .int x, .long v]) (n := 4) (Nat.le_of_ble_eq_true rfl)
  rw [lg_entry_eq]
  generalize (lg_sl ([.ref (ad 0), .int x, .long v]) ++ List.replicate (4 - (lg_sl ([.ref (ad 0), .int x, .long v])).length) Slot.unset).toArray = ls at hl ⊢
  have hl : lv_has ls 4 [(0, .ref (ad 0)), (1, .int x), (2, .long v)] := hl
  refine lv_aload_n hx hb d_R_append_0 rfl (lv_at hl 0 rfl) ?_
  refine fv_get (ci := 5) (v := .int (nI rn)) (C := R_R) (T := F_R) (N := 3) hx hb hts (by decide +kernel) hown hK hP 0 0 rfl rfl rfl 2 (by decide) (hts (.fieldLink R_R 19 "PartShelves$PriceRows" "count" "I") (by decide +kernel)) (fun _ h9 => h9) rfl d_R_append_1 ?_
  refine lv_bipush (v := nI 6) hx hb d_R_append_4 (by decide +kernel) ?_
  refine nv_icmp_ge (tgt := 31) hx hb d_R_append_6 (by decide) (by omega) (by omega) (fun hn => ?_) (fun hn => ?_)
  · have hC : ¬ rowOk ra rn x := fun q => by first | (have := q.1; omega) | (rcases q.2 with q2 | q2; omega; exact hc q2)
    refine lv_iconst (v := nI 0) hx hb d_R_append_31 (by decide) ?_
    have ew1 : ra = (if rowOk ra rn x then upd ra rn x else ra) := (if_neg hC).symm
    have hP : va_P D cls (fl [(wR kC ad (if rowOk ra rn x then upd ra rn x else ra) rc rn)]) s.heap := by rw [← ew1]; exact hP
    have hD : va_D A (fl [(wR kC ad (if rowOk ra rn x then upd ra rn x else ra) rc rn)]) := by rw [← ew1]; exact hD
    have ew2 : rc = (if rowOk ra rn x then vp_updL rc rn v else rc) := (if_neg hC).symm
    have hP : va_P D cls (fl [(wR kC ad (if rowOk ra rn x then upd ra rn x else ra) (if rowOk ra rn x then vp_updL rc rn v else rc) rn)]) s.heap := by rw [← ew2]; exact hP
    have hD : va_D A (fl [(wR kC ad (if rowOk ra rn x then upd ra rn x else ra) (if rowOk ra rn x then vp_updL rc rn v else rc) rn)]) := by rw [← ew2]; exact hD
    have ew3 : rn = (if rowOk ra rn x then rn + 1 else rn) := (if_neg hC).symm
    have hP : va_P D cls (fl [(wR kC ad (if rowOk ra rn x then upd ra rn x else ra) (if rowOk ra rn x then vp_updL rc rn v else rc) (if rowOk ra rn x then rn + 1 else rn))]) s.heap := by rw [← ew3]; exact hP
    have hD : va_D A (fl [(wR kC ad (if rowOk ra rn x then upd ra rn x else ra) (if rowOk ra rn x then vp_updL rc rn v else rc) (if rowOk ra rn x then rn + 1 else rn))]) := by rw [← ew3]; exact hD
    exact W.zret (v := nI 0) hx hb hr (nar_b (by first | exact Or.inl rfl | exact Or.inr rfl | exact bI_01)) (fun t ht hW => by subst hAe; exact ⟨⟨(nI 0), (), rfl, (bI_f hC).symm, by rw [ht]; exact hP, va_K.moved hW.alike hK, hD⟩, hS.F ht⟩) (by subst hAe; exact hS.2.2) d_R_append_32
  · refine lv_aload_n hx hb d_R_append_9 rfl (lv_at hl 0 rfl) ?_
    refine fv_get (ci := 5) (v := .int (nI rn)) (C := R_R) (T := F_R) (N := 3) hx hb hts (by decide +kernel) hown hK hP 0 0 rfl rfl rfl 2 (by decide) (hts (.fieldLink R_R 19 "PartShelves$PriceRows" "count" "I") (by decide +kernel)) (fun _ h9 => h9) rfl d_R_append_10 ?_
    refine nv_if_le (tgt := 33) hx hb d_R_append_13 (by decide) (by omega) (fun h0 => ?_) (fun h0 => ?_)
    · have hC : rowOk ra rn x := ⟨by omega, by first | (left; omega) | (right; exact hc)⟩
      refine lv_aload_n hx hb d_R_append_33 rfl (lv_at hl 0 rfl) ?_
      refine fv_get (ci := 5) (v := .ref (ad 1)) (C := R_R) (T := F_R) (N := 3) hx hb hts (by decide +kernel) hown hK hP 0 0 rfl rfl rfl 0 (by decide) (hts (.fieldLink R_R 9 "PartShelves$PriceRows" "ages" "[I") (by decide +kernel)) (fun _ h9 => h9) rfl d_R_append_34 ?_
      refine lv_aload_n hx hb d_R_append_37 rfl (lv_at hl 0 rfl) ?_
      refine fv_get (ci := 5) (v := .int (nI rn)) (C := R_R) (T := F_R) (N := 3) hx hb hts (by decide +kernel) hown hK hP 0 0 rfl rfl rfl 2 (by decide) (hts (.fieldLink R_R 19 "PartShelves$PriceRows" "count" "I") (by decide +kernel)) (fun _ h9 => h9) rfl d_R_append_38 ?_
      refine lv_iload_n hx hb d_R_append_41 rfl (lv_at hl 1 rfl) ?_
      refine fa_iast hx hb hK hP hD hS 0 1 0 rfl rfl rfl (by omega) (by decide) d_R_append_42 (fun H locs hP hD hS => ?_)
      have hP : va_P D cls (fl [(wR kC ad (upd ra rn x) rc rn)]) H := hP
      have hD : va_D A (fl [(wR kC ad (upd ra rn x) rc rn)]) := hD
      refine lv_aload_n hx hb d_R_append_43 rfl (lv_at hl 0 rfl) ?_
      refine fv_get (ci := 5) (v := .ref (ad 2)) (C := R_R) (T := F_R) (N := 3) hx hb hts (by decide +kernel) hown hK hP 0 0 rfl rfl rfl 1 (by decide) (hts (.fieldLink R_R 15 "PartShelves$PriceRows" "cents" "[J") (by decide +kernel)) (fun _ h9 => h9) rfl d_R_append_44 ?_
      refine lv_aload_n hx hb d_R_append_47 rfl (lv_at hl 0 rfl) ?_
      refine fv_get (ci := 5) (v := .int (nI rn)) (C := R_R) (T := F_R) (N := 3) hx hb hts (by decide +kernel) hown hK hP 0 0 rfl rfl rfl 2 (by decide) (hts (.fieldLink R_R 19 "PartShelves$PriceRows" "count" "I") (by decide +kernel)) (fun _ h9 => h9) rfl d_R_append_48 ?_
      refine lv_lload_n hx hb d_R_append_51 rfl (lv_at hl 2 rfl) ?_
      refine fa_last hx hb hK hP hD hS 0 2 1 rfl rfl rfl (by omega) (by decide) d_R_append_52 (fun H locs hP hD hS => ?_)
      have hP : va_P D cls (fl [(wR kC ad (upd ra rn x) (vp_updL rc rn v) rn)]) H := hP
      have hD : va_D A (fl [(wR kC ad (upd ra rn x) (vp_updL rc rn v) rn)]) := hD
      refine lv_aload_n hx hb d_R_append_53 rfl (lv_at hl 0 rfl) ?_
      refine lv_dup hx hb d_R_append_54 rfl ?_
      refine fv_get (ci := 5) (v := .int (nI rn)) (C := R_R) (T := F_R) (N := 3) hx hb hts (by decide +kernel) hown hK hP 0 0 rfl rfl rfl 2 (by decide) (hts (.fieldLink R_R 19 "PartShelves$PriceRows" "count" "I") (by decide +kernel)) (fun _ h9 => h9) rfl d_R_append_55 ?_
      refine lv_iconst (v := nI 1) hx hb d_R_append_58 (by decide) ?_
      refine nv_iadd hx hb d_R_append_59 ?_
      refine fv_put (ci := 5) (v := .int (nI (rn + 1))) (ty := (.int)) (C := R_R) (T := F_R) (N := 3) hx hb hts (by decide +kernel) t_R t_R_ok n_R hown hK hP hD hS 0 0 rfl rfl rfl 2 (by decide) (hts (.fieldLink R_R 19 "PartShelves$PriceRows" "count" "I") (by decide +kernel)) (fun _ h9 => h9) rfl (by decide +kernel) (rfl) (rfl) (Nat.le_of_ble_eq_true rfl) d_R_append_60 (fun H locs hP hD hS => ?_)
      have hP : va_P D cls (fl [(wR kC ad (upd ra rn x) (vp_updL rc rn v) (rn + 1))]) H := hP
      have hD : va_D A (fl [(wR kC ad (upd ra rn x) (vp_updL rc rn v) (rn + 1))]) := hD
      refine lv_iconst (v := nI 1) hx hb d_R_append_63 (by decide) ?_
      have ew4 : (upd ra rn x) = (if rowOk ra rn x then upd ra rn x else ra) := (if_pos hC).symm
      have hP : va_P D cls (fl [(wR kC ad (if rowOk ra rn x then upd ra rn x else ra) (vp_updL rc rn v) (rn + 1))]) H := by rw [← ew4]; exact hP
      have hD : va_D A (fl [(wR kC ad (if rowOk ra rn x then upd ra rn x else ra) (vp_updL rc rn v) (rn + 1))]) := by rw [← ew4]; exact hD
      have ew5 : (vp_updL rc rn v) = (if rowOk ra rn x then vp_updL rc rn v else rc) := (if_pos hC).symm
      have hP : va_P D cls (fl [(wR kC ad (if rowOk ra rn x then upd ra rn x else ra) (if rowOk ra rn x then vp_updL rc rn v else rc) (rn + 1))]) H := by rw [← ew5]; exact hP
      have hD : va_D A (fl [(wR kC ad (if rowOk ra rn x then upd ra rn x else ra) (if rowOk ra rn x then vp_updL rc rn v else rc) (rn + 1))]) := by rw [← ew5]; exact hD
      have ew6 : (rn + 1) = (if rowOk ra rn x then rn + 1 else rn) := (if_pos hC).symm
      have hP : va_P D cls (fl [(wR kC ad (if rowOk ra rn x then upd ra rn x else ra) (if rowOk ra rn x then vp_updL rc rn v else rc) (if rowOk ra rn x then rn + 1 else rn))]) H := by rw [← ew6]; exact hP
      have hD : va_D A (fl [(wR kC ad (if rowOk ra rn x then upd ra rn x else ra) (if rowOk ra rn x then vp_updL rc rn v else rc) (if rowOk ra rn x then rn + 1 else rn))]) := by rw [← ew6]; exact hD
      exact W.zret (v := nI 1) hx hb hr (nar_b (by first | exact Or.inl rfl | exact Or.inr rfl | exact bI_01)) (fun t ht hW => by subst hAe; exact ⟨⟨(nI 1), (), rfl, (bI_t hC).symm, by rw [ht]; exact hP, va_K.moved hW.alike hK, hD⟩, hS.F ht⟩) (by subst hAe; exact hS.2.2) d_R_append_64
    · refine lv_iload_n hx hb d_R_append_16 rfl (lv_at hl 1 rfl) ?_
      refine lv_aload_n hx hb d_R_append_17 rfl (lv_at hl 0 rfl) ?_
      refine fv_get (ci := 5) (v := .ref (ad 1)) (C := R_R) (T := F_R) (N := 3) hx hb hts (by decide +kernel) hown hK hP 0 0 rfl rfl rfl 0 (by decide) (hts (.fieldLink R_R 9 "PartShelves$PriceRows" "ages" "[I") (by decide +kernel)) (fun _ h9 => h9) rfl d_R_append_18 ?_
      refine lv_aload_n hx hb d_R_append_21 rfl (lv_at hl 0 rfl) ?_
      refine fv_get (ci := 5) (v := .int (nI rn)) (C := R_R) (T := F_R) (N := 3) hx hb hts (by decide +kernel) hown hK hP 0 0 rfl rfl rfl 2 (by decide) (hts (.fieldLink R_R 19 "PartShelves$PriceRows" "count" "I") (by decide +kernel)) (fun _ h9 => h9) rfl d_R_append_22 ?_
      refine lv_iconst (v := nI 1) hx hb d_R_append_25 (by decide) ?_
      refine nv_isub hx hb d_R_append_26 (by omega) ?_
      refine fa_iald hx hb hK hP 0 1 0 rfl rfl rfl (by omega) (by decide) d_R_append_27 ?_
      refine lv_icmp_gt (tgt := 33) hx hb d_R_append_28 (by decide) (fun hc => ?_) (fun hc => ?_)
      · have hC : rowOk ra rn x := ⟨by omega, by first | (left; omega) | (right; exact hc)⟩
        refine lv_aload_n hx hb d_R_append_33 rfl (lv_at hl 0 rfl) ?_
        refine fv_get (ci := 5) (v := .ref (ad 1)) (C := R_R) (T := F_R) (N := 3) hx hb hts (by decide +kernel) hown hK hP 0 0 rfl rfl rfl 0 (by decide) (hts (.fieldLink R_R 9 "PartShelves$PriceRows" "ages" "[I") (by decide +kernel)) (fun _ h9 => h9) rfl d_R_append_34 ?_
        refine lv_aload_n hx hb d_R_append_37 rfl (lv_at hl 0 rfl) ?_
        refine fv_get (ci := 5) (v := .int (nI rn)) (C := R_R) (T := F_R) (N := 3) hx hb hts (by decide +kernel) hown hK hP 0 0 rfl rfl rfl 2 (by decide) (hts (.fieldLink R_R 19 "PartShelves$PriceRows" "count" "I") (by decide +kernel)) (fun _ h9 => h9) rfl d_R_append_38 ?_
        refine lv_iload_n hx hb d_R_append_41 rfl (lv_at hl 1 rfl) ?_
        refine fa_iast hx hb hK hP hD hS 0 1 0 rfl rfl rfl (by omega) (by decide) d_R_append_42 (fun H locs hP hD hS => ?_)
        have hP : va_P D cls (fl [(wR kC ad (upd ra rn x) rc rn)]) H := hP
        have hD : va_D A (fl [(wR kC ad (upd ra rn x) rc rn)]) := hD
        refine lv_aload_n hx hb d_R_append_43 rfl (lv_at hl 0 rfl) ?_
        refine fv_get (ci := 5) (v := .ref (ad 2)) (C := R_R) (T := F_R) (N := 3) hx hb hts (by decide +kernel) hown hK hP 0 0 rfl rfl rfl 1 (by decide) (hts (.fieldLink R_R 15 "PartShelves$PriceRows" "cents" "[J") (by decide +kernel)) (fun _ h9 => h9) rfl d_R_append_44 ?_
        refine lv_aload_n hx hb d_R_append_47 rfl (lv_at hl 0 rfl) ?_
        refine fv_get (ci := 5) (v := .int (nI rn)) (C := R_R) (T := F_R) (N := 3) hx hb hts (by decide +kernel) hown hK hP 0 0 rfl rfl rfl 2 (by decide) (hts (.fieldLink R_R 19 "PartShelves$PriceRows" "count" "I") (by decide +kernel)) (fun _ h9 => h9) rfl d_R_append_48 ?_
        refine lv_lload_n hx hb d_R_append_51 rfl (lv_at hl 2 rfl) ?_
        refine fa_last hx hb hK hP hD hS 0 2 1 rfl rfl rfl (by omega) (by decide) d_R_append_52 (fun H locs hP hD hS => ?_)
        have hP : va_P D cls (fl [(wR kC ad (upd ra rn x) (vp_updL rc rn v) rn)]) H := hP
        have hD : va_D A (fl [(wR kC ad (upd ra rn x) (vp_updL rc rn v) rn)]) := hD
        refine lv_aload_n hx hb d_R_append_53 rfl (lv_at hl 0 rfl) ?_
        refine lv_dup hx hb d_R_append_54 rfl ?_
        refine fv_get (ci := 5) (v := .int (nI rn)) (C := R_R) (T := F_R) (N := 3) hx hb hts (by decide +kernel) hown hK hP 0 0 rfl rfl rfl 2 (by decide) (hts (.fieldLink R_R 19 "PartShelves$PriceRows" "count" "I") (by decide +kernel)) (fun _ h9 => h9) rfl d_R_append_55 ?_
        refine lv_iconst (v := nI 1) hx hb d_R_append_58 (by decide) ?_
        refine nv_iadd hx hb d_R_append_59 ?_
        refine fv_put (ci := 5) (v := .int (nI (rn + 1))) (ty := (.int)) (C := R_R) (T := F_R) (N := 3) hx hb hts (by decide +kernel) t_R t_R_ok n_R hown hK hP hD hS 0 0 rfl rfl rfl 2 (by decide) (hts (.fieldLink R_R 19 "PartShelves$PriceRows" "count" "I") (by decide +kernel)) (fun _ h9 => h9) rfl (by decide +kernel) (rfl) (rfl) (Nat.le_of_ble_eq_true rfl) d_R_append_60 (fun H locs hP hD hS => ?_)
        have hP : va_P D cls (fl [(wR kC ad (upd ra rn x) (vp_updL rc rn v) (rn + 1))]) H := hP
        have hD : va_D A (fl [(wR kC ad (upd ra rn x) (vp_updL rc rn v) (rn + 1))]) := hD
        refine lv_iconst (v := nI 1) hx hb d_R_append_63 (by decide) ?_
        have ew7 : (upd ra rn x) = (if rowOk ra rn x then upd ra rn x else ra) := (if_pos hC).symm
        have hP : va_P D cls (fl [(wR kC ad (if rowOk ra rn x then upd ra rn x else ra) (vp_updL rc rn v) (rn + 1))]) H := by rw [← ew7]; exact hP
        have hD : va_D A (fl [(wR kC ad (if rowOk ra rn x then upd ra rn x else ra) (vp_updL rc rn v) (rn + 1))]) := by rw [← ew7]; exact hD
        have ew8 : (vp_updL rc rn v) = (if rowOk ra rn x then vp_updL rc rn v else rc) := (if_pos hC).symm
        have hP : va_P D cls (fl [(wR kC ad (if rowOk ra rn x then upd ra rn x else ra) (if rowOk ra rn x then vp_updL rc rn v else rc) (rn + 1))]) H := by rw [← ew8]; exact hP
        have hD : va_D A (fl [(wR kC ad (if rowOk ra rn x then upd ra rn x else ra) (if rowOk ra rn x then vp_updL rc rn v else rc) (rn + 1))]) := by rw [← ew8]; exact hD
        have ew9 : (rn + 1) = (if rowOk ra rn x then rn + 1 else rn) := (if_pos hC).symm
        have hP : va_P D cls (fl [(wR kC ad (if rowOk ra rn x then upd ra rn x else ra) (if rowOk ra rn x then vp_updL rc rn v else rc) (if rowOk ra rn x then rn + 1 else rn))]) H := by rw [← ew9]; exact hP
        have hD : va_D A (fl [(wR kC ad (if rowOk ra rn x then upd ra rn x else ra) (if rowOk ra rn x then vp_updL rc rn v else rc) (if rowOk ra rn x then rn + 1 else rn))]) := by rw [← ew9]; exact hD
        exact W.zret (v := nI 1) hx hb hr (nar_b (by first | exact Or.inl rfl | exact Or.inr rfl | exact bI_01)) (fun t ht hW => by subst hAe; exact ⟨⟨(nI 1), (), rfl, (bI_t hC).symm, by rw [ht]; exact hP, va_K.moved hW.alike hK, hD⟩, hS.F ht⟩) (by subst hAe; exact hS.2.2) d_R_append_64
      · have hC : ¬ rowOk ra rn x := fun q => by first | (have := q.1; omega) | (rcases q.2 with q2 | q2; omega; exact hc q2)
        refine lv_iconst (v := nI 0) hx hb d_R_append_31 (by decide) ?_
        have ew10 : ra = (if rowOk ra rn x then upd ra rn x else ra) := (if_neg hC).symm
        have hP : va_P D cls (fl [(wR kC ad (if rowOk ra rn x then upd ra rn x else ra) rc rn)]) s.heap := by rw [← ew10]; exact hP
        have hD : va_D A (fl [(wR kC ad (if rowOk ra rn x then upd ra rn x else ra) rc rn)]) := by rw [← ew10]; exact hD
        have ew11 : rc = (if rowOk ra rn x then vp_updL rc rn v else rc) := (if_neg hC).symm
        have hP : va_P D cls (fl [(wR kC ad (if rowOk ra rn x then upd ra rn x else ra) (if rowOk ra rn x then vp_updL rc rn v else rc) rn)]) s.heap := by rw [← ew11]; exact hP
        have hD : va_D A (fl [(wR kC ad (if rowOk ra rn x then upd ra rn x else ra) (if rowOk ra rn x then vp_updL rc rn v else rc) rn)]) := by rw [← ew11]; exact hD
        have ew12 : rn = (if rowOk ra rn x then rn + 1 else rn) := (if_neg hC).symm
        have hP : va_P D cls (fl [(wR kC ad (if rowOk ra rn x then upd ra rn x else ra) (if rowOk ra rn x then vp_updL rc rn v else rc) (if rowOk ra rn x then rn + 1 else rn))]) s.heap := by rw [← ew12]; exact hP
        have hD : va_D A (fl [(wR kC ad (if rowOk ra rn x then upd ra rn x else ra) (if rowOk ra rn x then vp_updL rc rn v else rc) (if rowOk ra rn x then rn + 1 else rn))]) := by rw [← ew12]; exact hD
        exact W.zret (v := nI 0) hx hb hr (nar_b (by first | exact Or.inl rfl | exact Or.inr rfl | exact bI_01)) (fun t ht hW => by subst hAe; exact ⟨⟨(nI 0), (), rfl, (bI_f hC).symm, by rw [ht]; exact hP, va_K.moved hW.alike hK, hD⟩, hS.F ht⟩) (by subst hAe; exact hS.2.2) d_R_append_32

/-- a part -/
def wQ (h : Nat) (ki : Nat) (ag : Nat) (se : Nat) (sa : Nat) (dy : Nat) (ho : Int32) (pe : Int32) : va_W := [(h, .inr (4, [.int (nI ki), .int (nI ag), .long (lN se), .int (nI sa), .int (nI dy), .int (ho), .int (pe)]))]
/-- what a part is on a day -/
abbrev stOn (sa dy td : Nat) : Nat := if sa = 1 ∧ dy < td then 0 else sa
abbrev b_Q_stateOn : ByteArray := prog_5_method_2_code
def y_Q_stateOn : MethodName := ⟨"PartShelves$Part", "stateOn", "(I)I"⟩
theorem d_Q_stateOn_0 : decode b_Q_stateOn 0 = .ok (.aload_n 0, 1) := by decide +kernel
theorem d_Q_stateOn_1 : decode b_Q_stateOn 1 = .ok (.getfield 9, 3) := by decide +kernel
theorem d_Q_stateOn_4 : decode b_Q_stateOn 4 = .ok (.iconst 1, 1) := by decide +kernel
theorem d_Q_stateOn_5 : decode b_Q_stateOn 5 = .ok (.if_icmp .ne 15, 3) := by decide +kernel
theorem d_Q_stateOn_8 : decode b_Q_stateOn 8 = .ok (.aload_n 0, 1) := by decide +kernel
theorem d_Q_stateOn_9 : decode b_Q_stateOn 9 = .ok (.getfield 15, 3) := by decide +kernel
theorem d_Q_stateOn_12 : decode b_Q_stateOn 12 = .ok (.iload_n 1, 1) := by decide +kernel
theorem d_Q_stateOn_13 : decode b_Q_stateOn 13 = .ok (.if_icmp .ge 7, 3) := by decide +kernel
theorem d_Q_stateOn_16 : decode b_Q_stateOn 16 = .ok (.iconst 0, 1) := by decide +kernel
theorem d_Q_stateOn_17 : decode b_Q_stateOn 17 = .ok (.goto 7, 3) := by decide +kernel
theorem d_Q_stateOn_20 : decode b_Q_stateOn 20 = .ok (.aload_n 0, 1) := by decide +kernel
theorem d_Q_stateOn_21 : decode b_Q_stateOn 21 = .ok (.getfield 9, 3) := by decide +kernel
theorem d_Q_stateOn_24 : decode b_Q_stateOn 24 = .ok (.ireturn, 1) := by decide +kernel
def w_Q_stateOn : List Cond := .code y_Q_stateOn b_Q_stateOn 2 (some .int) :: ([.fieldLink "PartShelves$Part" 9 "PartShelves$Part" "state" "I", .fieldLink "PartShelves$Part" 15 "PartShelves$Part" "day" "I"] ++ u_ws R_Q F_Q 7)
set_option maxHeartbeats 4000000 in
set_option maxRecDepth 100000 in
theorem c_Q_stOn (l : Launch) (D : va_G) (kC : Nat → ClassId) (h : Nat) (ki : Nat) (ag : Nat) (se : Nat) (sa : Nat) (dy : Nat) (ho : Int32) (pe : Int32) (td : Nat) (hsa : sa ≤ 3) (hdy : dy ≤ 100000) (htd : td ≤ 100000) : Met l y_Q_stateOn w_Q_stateOn ({ frames := 0, cells := 0, slots := 0, locals := 0 } : Room) (gPr cls D (tyL kC) [.ref h, .int (nI td)] (fl [(wQ h ki ag se sa dy ho pe)])) (vp_Si (fun r => r = nI (stOn sa dy td))) 0 0 (fun _ => False) := by
  refine Met.ofW (cc := b_Q_stateOn) (maxL := 2) (ret := (some .int)) (by decide) rfl ?_
  intro p e s m args below meth c s₁ B hml hv
  obtain ⟨rfl, hP, hK⟩ := hv
  have hx := B.exec
  have hb := B.bytes
  have hr := B.returns
  have hts := atoms_spec (ws := w_Q_stateOn) B.pre
  have hown : s.vm.findClass R_Q = some m.cls := findClass_of_methodNamed B.named
  have hlocks := B.notSynchronized
  have hl := lv_entry ([.ref h, .int (nI td)]) (n := 2) (Nat.le_of_ble_eq_true rfl)
  rw [lg_entry_eq]
  generalize (lg_sl ([.ref h, .int (nI td)]) ++ List.replicate (2 - (lg_sl ([.ref h, .int (nI td)])).length) Slot.unset).toArray = ls at hl ⊢
  have hl : lv_has ls 2 [(0, .ref h), (1, .int (nI td))] := hl
  refine lv_aload_n hx hb d_Q_stateOn_0 rfl (lv_at hl 0 rfl) ?_
  refine fv_get (ci := 4) (v := .int (nI sa)) (C := R_Q) (T := F_Q) (N := 7) hx hb hts (by decide +kernel) hown hK hP 0 0 rfl rfl rfl 3 (by decide) (hts (.fieldLink R_Q 9 "PartShelves$Part" "state" "I") (by decide +kernel)) (fun _ h9 => h9) rfl d_Q_stateOn_1 ?_
  refine lv_iconst (v := nI 1) hx hb d_Q_stateOn_4 (by decide) ?_
  refine nv_icmp_ne (tgt := 20) hx hb d_Q_stateOn_5 (by decide) (by omega) (by omega) (fun h1 => ?_) (fun h1 => ?_)
  · refine lv_aload_n hx hb d_Q_stateOn_20 rfl (lv_at hl 0 rfl) ?_
    refine fv_get (ci := 4) (v := .int (nI sa)) (C := R_Q) (T := F_Q) (N := 7) hx hb hts (by decide +kernel) hown hK hP 0 0 rfl rfl rfl 3 (by decide) (hts (.fieldLink R_Q 9 "PartShelves$Part" "state" "I") (by decide +kernel)) (fun _ h9 => h9) rfl d_Q_stateOn_21 ?_
    exact W.iret (v := nI sa) hx hb hr (fun t ht hW => ⟨_, rfl, congrArg nI (by first | exact (if_pos ⟨h1, h2⟩).symm | exact (if_neg (fun q => h1 q.1)).symm | exact (if_neg (fun q => by have := q.2; omega)).symm), ht⟩) t_nil d_Q_stateOn_24
  · refine lv_aload_n hx hb d_Q_stateOn_8 rfl (lv_at hl 0 rfl) ?_
    refine fv_get (ci := 4) (v := .int (nI dy)) (C := R_Q) (T := F_Q) (N := 7) hx hb hts (by decide +kernel) hown hK hP 0 0 rfl rfl rfl 4 (by decide) (hts (.fieldLink R_Q 15 "PartShelves$Part" "day" "I") (by decide +kernel)) (fun _ h9 => h9) rfl d_Q_stateOn_9 ?_
    refine lv_iload_n hx hb d_Q_stateOn_12 rfl (lv_at hl 1 rfl) ?_
    refine nv_icmp_ge (tgt := 20) hx hb d_Q_stateOn_13 (by decide) (by omega) (by omega) (fun h2 => ?_) (fun h2 => ?_)
    · refine lv_aload_n hx hb d_Q_stateOn_20 rfl (lv_at hl 0 rfl) ?_
      refine fv_get (ci := 4) (v := .int (nI sa)) (C := R_Q) (T := F_Q) (N := 7) hx hb hts (by decide +kernel) hown hK hP 0 0 rfl rfl rfl 3 (by decide) (hts (.fieldLink R_Q 9 "PartShelves$Part" "state" "I") (by decide +kernel)) (fun _ h9 => h9) rfl d_Q_stateOn_21 ?_
      exact W.iret (v := nI sa) hx hb hr (fun t ht hW => ⟨_, rfl, congrArg nI (by first | exact (if_pos ⟨h1, h2⟩).symm | exact (if_neg (fun q => h1 q.1)).symm | exact (if_neg (fun q => by have := q.2; omega)).symm), ht⟩) t_nil d_Q_stateOn_24
    · refine lv_iconst (v := nI 0) hx hb d_Q_stateOn_16 (by decide) ?_
      refine lv_goto (tgt := 24) hx hb d_Q_stateOn_17 (by decide) ?_
      exact W.iret (v := nI 0) hx hb hr (fun t ht hW => ⟨_, rfl, congrArg nI (by first | exact (if_pos ⟨h1, h2⟩).symm | exact (if_neg (fun q => h1 q.1)).symm | exact (if_neg (fun q => by have := q.2; omega)).symm), ht⟩) t_nil d_Q_stateOn_24

abbrev b_Q_isFreeFor : ByteArray := prog_5_method_3_code
def y_Q_isFreeFor : MethodName := ⟨"PartShelves$Part", "isFreeFor", "(II)Z"⟩
theorem d_Q_isFreeFor_0 : decode b_Q_isFreeFor 0 = .ok (.aload_n 0, 1) := by decide +kernel
theorem d_Q_isFreeFor_1 : decode b_Q_isFreeFor 1 = .ok (.iload_n 2, 1) := by decide +kernel
theorem d_Q_isFreeFor_2 : decode b_Q_isFreeFor 2 = .ok (.invokevirtual 34, 3) := by decide +kernel
theorem d_Q_isFreeFor_5 : decode b_Q_isFreeFor 5 = .ok (.istore_n 3, 1) := by decide +kernel
theorem d_Q_isFreeFor_6 : decode b_Q_isFreeFor 6 = .ok (.iload_n 3, 1) := by decide +kernel
theorem d_Q_isFreeFor_7 : decode b_Q_isFreeFor 7 = .ok (.ifCond .eq 16, 3) := by decide +kernel
theorem d_Q_isFreeFor_10 : decode b_Q_isFreeFor 10 = .ok (.iload_n 3, 1) := by decide +kernel
theorem d_Q_isFreeFor_11 : decode b_Q_isFreeFor 11 = .ok (.iconst 1, 1) := by decide +kernel
theorem d_Q_isFreeFor_12 : decode b_Q_isFreeFor 12 = .ok (.if_icmp .ne 15, 3) := by decide +kernel
theorem d_Q_isFreeFor_15 : decode b_Q_isFreeFor 15 = .ok (.aload_n 0, 1) := by decide +kernel
theorem d_Q_isFreeFor_16 : decode b_Q_isFreeFor 16 = .ok (.getfield 18, 3) := by decide +kernel
theorem d_Q_isFreeFor_19 : decode b_Q_isFreeFor 19 = .ok (.iload_n 1, 1) := by decide +kernel
theorem d_Q_isFreeFor_20 : decode b_Q_isFreeFor 20 = .ok (.if_icmp .ne 7, 3) := by decide +kernel
theorem d_Q_isFreeFor_23 : decode b_Q_isFreeFor 23 = .ok (.iconst 1, 1) := by decide +kernel
theorem d_Q_isFreeFor_24 : decode b_Q_isFreeFor 24 = .ok (.goto 4, 3) := by decide +kernel
theorem d_Q_isFreeFor_27 : decode b_Q_isFreeFor 27 = .ok (.iconst 0, 1) := by decide +kernel
theorem d_Q_isFreeFor_28 : decode b_Q_isFreeFor 28 = .ok (.ireturn, 1) := by decide +kernel
def w_Q_isFreeFor : List Cond := .code y_Q_isFreeFor b_Q_isFreeFor 4 (some .boolean) :: ([.methodLink "PartShelves$Part" 34 ⟨"PartShelves$Part", "stateOn", "(I)I"⟩, .instanceMethod ⟨"PartShelves$Part", "stateOn", "(I)I"⟩, .selects "PartShelves$Part" ⟨"PartShelves$Part", "stateOn", "(I)I"⟩ ⟨"PartShelves$Part", "stateOn", "(I)I"⟩, .initialized "PartShelves$Part", .code ⟨"PartShelves$Part", "stateOn", "(I)I"⟩ prog_5_method_2_code 2 (some .int), .fieldLink "PartShelves$Part" 9 "PartShelves$Part" "state" "I", .fieldLink "PartShelves$Part" 15 "PartShelves$Part" "day" "I", .fieldLink "PartShelves$Part" 18 "PartShelves$Part" "holder" "I"] ++ u_ws R_Q F_Q 7)
set_option maxRecDepth 20000 in
theorem g_Q_free_st : GoodIn w_Q_isFreeFor (wsV R_Q 34 R_Q y_Q_stateOn w_Q_stateOn) := goodIn_p _ [5] rfl (by decide +kernel)
theorem stOn_le {sa dy td : Nat} (h : sa ≤ 3) : stOn sa dy td ≤ 3 := by unfold stOn; split <;> omega
set_option maxHeartbeats 4000000 in
set_option maxRecDepth 100000 in
theorem c_Q_free (l : Launch) (D : va_G) (kC : Nat → ClassId) (h : Nat) (ki : Nat) (ag : Nat) (se : Nat) (sa : Nat) (dy : Nat) (ho : Int32) (pe : Int32) (k : Nat) (td : Nat) (hsa : sa ≤ 3) (hdy : dy ≤ 100000) (htd : td ≤ 100000) : Met l y_Q_isFreeFor w_Q_isFreeFor ({ frames := 1, cells := 0, slots := 0, locals := 21 } : Room) (gPr cls D (tyL kC) [.ref h, .int (nI k), .int (nI td)] (fl [(wQ h ki ag se sa dy ho pe)])) (vp_Si (fun r => r = bI (stOn sa dy td = 0 ∨ (stOn sa dy td = 1 ∧ ho = nI k)))) 0 0 (fun _ => False) := by
  refine Met.ofW (cc := b_Q_isFreeFor) (maxL := 4) (ret := (some .boolean)) (by decide) rfl ?_
  intro p e s m args below meth c s₁ B hml hv
  obtain ⟨rfl, hP, hK⟩ := hv
  have hx := B.exec
  have hb := B.bytes
  have hr := B.returns
  have hts := atoms_spec (ws := w_Q_isFreeFor) B.pre
  have hown : s.vm.findClass R_Q = some m.cls := findClass_of_methodNamed B.named
  have hlocks := B.notSynchronized
  have hl := lv_entry ([.ref h, .int (nI k), .int (nI td)]) (n := 4) (Nat.le_of_ble_eq_true rfl)
  rw [lg_entry_eq]
  generalize (lg_sl ([.ref h, .int (nI k), .int (nI td)]) ++ List.replicate (4 - (lg_sl ([.ref h, .int (nI k), .int (nI td)])).length) Slot.unset).toArray = ls at hl ⊢
  have hl : lv_has ls 4 [(0, .ref h), (1, .int (nI k)), (2, .int (nI td))] := hl
  refine lv_aload_n hx hb d_Q_isFreeFor_0 rfl (lv_at hl 0 rfl) ?_
  refine lv_iload_n hx hb d_Q_isFreeFor_1 rfl (lv_at hl 2 rfl) ?_
  refine r_calli (W.runV (As := [.int (nI td)]) (rest := []) ⟨hx, hb, hml, hown, hts⟩ (c_Q_stOn l D kC h ki ag se sa dy ho pe td (hsa) (hdy) (htd)) (cwV 1 hts g_Q_free_st rfl rfl rfl (by decide +kernel) ⟨Nat.le_of_ble_eq_true rfl, Nat.le_of_ble_eq_true rfl⟩) (r_preV (f_recv (ci := 4) (q0 := 0) hK hP 0 rfl rfl rfl) hK hP) rfl rfl hl.1 rfl (lv_room (Nat.le_of_ble_eq_true rfl)) d_Q_isFreeFor_2 ⟨Nat.le_of_ble_eq_true rfl, Nat.le_of_ble_eq_true rfl⟩) ?_
  refine lv_istore_n (lv' := [(3, .int (nI (stOn sa dy td))), (0, .ref h), (1, .int (nI k)), (2, .int (nI td))]) hx hb d_Q_isFreeFor_5 rfl hl (by decide) rfl (fun ls hl => ?_)
  refine lv_iload_n hx hb d_Q_isFreeFor_6 rfl (lv_at hl 0 rfl) ?_
  refine nv_if_eq (tgt := 23) hx hb d_Q_isFreeFor_7 (by decide) (Nat.lt_of_le_of_lt (stOn_le hsa) (by decide)) (fun h1 => ?_) (fun h1 => ?_)
  · refine lv_iconst (v := nI 1) hx hb d_Q_isFreeFor_23 (by decide) ?_
    refine lv_goto (tgt := 28) hx hb d_Q_isFreeFor_24 (by decide) ?_
    exact W.zret (v := nI 1) hx hb hr (nar_b (by first | exact Or.inl rfl | exact Or.inr rfl | exact bI_01)) (fun t ht hW => ⟨_, rfl, (bI_t (by first | exact Or.inl h1 | exact Or.inr ⟨h2, h3⟩)).symm, ht⟩) t_nil d_Q_isFreeFor_28
  · refine lv_iload_n hx hb d_Q_isFreeFor_10 rfl (lv_at hl 0 rfl) ?_
    refine lv_iconst (v := nI 1) hx hb d_Q_isFreeFor_11 (by decide) ?_
    refine nv_icmp_ne (tgt := 27) hx hb d_Q_isFreeFor_12 (by decide) (Nat.lt_of_le_of_lt (stOn_le hsa) (by decide)) (by omega) (fun h2 => ?_) (fun h2 => ?_)
    · refine lv_iconst (v := nI 0) hx hb d_Q_isFreeFor_27 (by decide) ?_
      exact W.zret (v := nI 0) hx hb hr (nar_b (by first | exact Or.inl rfl | exact Or.inr rfl | exact bI_01)) (fun t ht hW => ⟨_, rfl, (bI_f (fun q => by first | exact h3 (q.elim (fun z => absurd z h1) (fun z => z.2)) | exact h2 (q.elim (fun z => absurd z h1) (fun z => z.1)))).symm, ht⟩) t_nil d_Q_isFreeFor_28
    · refine lv_aload_n hx hb d_Q_isFreeFor_15 rfl (lv_at hl 1 rfl) ?_
      refine fv_get (ci := 4) (v := .int ho) (C := R_Q) (T := F_Q) (N := 7) hx hb hts (by decide +kernel) hown hK hP 0 0 rfl rfl rfl 5 (by decide) (hts (.fieldLink R_Q 18 "PartShelves$Part" "holder" "I") (by decide +kernel)) (fun _ h9 => h9) rfl d_Q_isFreeFor_16 ?_
      refine lv_iload_n hx hb d_Q_isFreeFor_19 rfl (lv_at hl 2 rfl) ?_
      refine lv_icmp_ne (tgt := 27) hx hb d_Q_isFreeFor_20 (by decide) (fun h3 => ?_) (fun h3 => ?_)
      · refine lv_iconst (v := nI 0) hx hb d_Q_isFreeFor_27 (by decide) ?_
        exact W.zret (v := nI 0) hx hb hr (nar_b (by first | exact Or.inl rfl | exact Or.inr rfl | exact bI_01)) (fun t ht hW => ⟨_, rfl, (bI_f (fun q => by first | exact h3 (q.elim (fun z => absurd z h1) (fun z => z.2)) | exact h2 (q.elim (fun z => absurd z h1) (fun z => z.1)))).symm, ht⟩) t_nil d_Q_isFreeFor_28
      · refine lv_iconst (v := nI 1) hx hb d_Q_isFreeFor_23 (by decide) ?_
        refine lv_goto (tgt := 28) hx hb d_Q_isFreeFor_24 (by decide) ?_
        exact W.zret (v := nI 1) hx hb hr (nar_b (by first | exact Or.inl rfl | exact Or.inr rfl | exact bI_01)) (fun t ht hW => ⟨_, rfl, (bI_t (by first | exact Or.inl h1 | exact Or.inr ⟨h2, h3⟩)).symm, ht⟩) t_nil d_Q_isFreeFor_28

abbrev b_Q_holdFor : ByteArray := prog_5_method_4_code
def y_Q_holdFor : MethodName := ⟨"PartShelves$Part", "holdFor", "(II)V"⟩
theorem d_Q_holdFor_0 : decode b_Q_holdFor 0 = .ok (.aload_n 0, 1) := by decide +kernel
theorem d_Q_holdFor_1 : decode b_Q_holdFor 1 = .ok (.iconst 1, 1) := by decide +kernel
theorem d_Q_holdFor_2 : decode b_Q_holdFor 2 = .ok (.putfield 9, 3) := by decide +kernel
theorem d_Q_holdFor_5 : decode b_Q_holdFor 5 = .ok (.aload_n 0, 1) := by decide +kernel
theorem d_Q_holdFor_6 : decode b_Q_holdFor 6 = .ok (.iload_n 1, 1) := by decide +kernel
theorem d_Q_holdFor_7 : decode b_Q_holdFor 7 = .ok (.putfield 18, 3) := by decide +kernel
theorem d_Q_holdFor_10 : decode b_Q_holdFor 10 = .ok (.aload_n 0, 1) := by decide +kernel
theorem d_Q_holdFor_11 : decode b_Q_holdFor 11 = .ok (.iload_n 2, 1) := by decide +kernel
theorem d_Q_holdFor_12 : decode b_Q_holdFor 12 = .ok (.putfield 15, 3) := by decide +kernel
theorem d_Q_holdFor_15 : decode b_Q_holdFor 15 = .ok (.return_, 1) := by decide +kernel
def w_Q_holdFor : List Cond := .code y_Q_holdFor b_Q_holdFor 3 none :: ([.fieldLink "PartShelves$Part" 9 "PartShelves$Part" "state" "I", .fieldLink "PartShelves$Part" 18 "PartShelves$Part" "holder" "I", .fieldLink "PartShelves$Part" 15 "PartShelves$Part" "day" "I"] ++ u_ws R_Q F_Q 7)
set_option maxHeartbeats 4000000 in
set_option maxRecDepth 100000 in
theorem c_Q_hold (l : Launch) (D : va_G) (kC : Nat → ClassId) (h : Nat) (ki : Nat) (ag : Nat) (se : Nat) (sa : Nat) (dy : Nat) (ho : Int32) (pe : Int32) (k : Nat) (y : Nat) (sz : Nat) : Met l y_Q_holdFor w_Q_holdFor ({ frames := 0, cells := 0, slots := 0, locals := 0 } : Room) (gPre cls D (tyL kC) [.ref h, .int (nI k), .int (nI y)] (fl [(wQ h ki ag se sa dy ho pe)]) sz) (gQv cls D (tyL kC) (fl [(wQ h ki ag se sa dy ho pe)]) sz (fl [(wQ h ki ag se 1 y (nI k) pe)])) 0 0 (va_A (fl [(wQ h ki ag se sa dy ho pe)]) sz) := by
  refine Met.ofW (cc := b_Q_holdFor) (maxL := 3) (ret := none) (by decide) rfl ?_
  intro p e s m args below meth c s₁ B hml hv
  obtain ⟨rfl, hsz, hP, hK, hD0⟩ := hv
  have hx := B.exec
  have hb := B.bytes
  have hr := B.returns
  have hts := atoms_spec (ws := w_Q_holdFor) B.pre
  have hown : s.vm.findClass R_Q = some m.cls := findClass_of_methodNamed B.named
  have hlocks := B.notSynchronized
  subst hsz
  obtain ⟨A, hAe⟩ : ∃ A : Nat → Prop, A = va_A (fl [(wQ h ki ag se sa dy ho pe)]) s.heap.size := ⟨_, rfl⟩
  have hD : va_D A (fl [(wQ h ki ag se sa dy ho pe)]) := by rw [hAe]; exact hD0.self
  have hA : ∀ q : Nat, s.heap.size ≤ q → A q := fun q h => by rw [hAe]; exact Or.inr h
  have hS : va_S A s.heap s.heap [] := va_S.rf
  have hl := lv_entry ([.ref h, .int (nI k), .int (nI y)]) (n := 3) (Nat.le_of_ble_eq_true rfl)
  rw [lg_entry_eq]
  generalize (lg_sl ([.ref h, .int (nI k), .int (nI y)]) ++ List.replicate (3 - (lg_sl ([.ref h, .int (nI k), .int (nI y)])).length) Slot.unset).toArray = ls at hl ⊢
  have hl : lv_has ls 3 [(0, .ref h), (1, .int (nI k)), (2, .int (nI y))] := hl
  refine lv_aload_n hx hb d_Q_holdFor_0 rfl (lv_at hl 0 rfl) ?_
  refine lv_iconst (v := nI 1) hx hb d_Q_holdFor_1 (by decide) ?_
  refine fv_put (ci := 4) (v := .int (nI 1)) (ty := (.int)) (C := R_Q) (T := F_Q) (N := 7) hx hb hts (by decide +kernel) t_Q t_Q_ok n_Q hown hK hP hD hS 0 0 rfl rfl rfl 3 (by decide) (hts (.fieldLink R_Q 9 "PartShelves$Part" "state" "I") (by decide +kernel)) (fun _ h9 => h9) rfl (by decide +kernel) (rfl) (rfl) (Nat.le_of_ble_eq_true rfl) d_Q_holdFor_2 (fun H locs hP hD hS => ?_)
  have hP : va_P D cls (fl [(wQ h ki ag se 1 dy ho pe)]) H := hP
  have hD : va_D A (fl [(wQ h ki ag se 1 dy ho pe)]) := hD
  refine lv_aload_n hx hb d_Q_holdFor_5 rfl (lv_at hl 0 rfl) ?_
  refine lv_iload_n hx hb d_Q_holdFor_6 rfl (lv_at hl 1 rfl) ?_
  refine fv_put (ci := 4) (v := .int (nI k)) (ty := (.int)) (C := R_Q) (T := F_Q) (N := 7) hx hb hts (by decide +kernel) t_Q t_Q_ok n_Q hown hK hP hD hS 0 0 rfl rfl rfl 5 (by decide) (hts (.fieldLink R_Q 18 "PartShelves$Part" "holder" "I") (by decide +kernel)) (fun _ h9 => h9) rfl (by decide +kernel) (rfl) (rfl) (Nat.le_of_ble_eq_true rfl) d_Q_holdFor_7 (fun H locs hP hD hS => ?_)
  have hP : va_P D cls (fl [(wQ h ki ag se 1 dy (nI k) pe)]) H := hP
  have hD : va_D A (fl [(wQ h ki ag se 1 dy (nI k) pe)]) := hD
  refine lv_aload_n hx hb d_Q_holdFor_10 rfl (lv_at hl 0 rfl) ?_
  refine lv_iload_n hx hb d_Q_holdFor_11 rfl (lv_at hl 2 rfl) ?_
  refine fv_put (ci := 4) (v := .int (nI y)) (ty := (.int)) (C := R_Q) (T := F_Q) (N := 7) hx hb hts (by decide +kernel) t_Q t_Q_ok n_Q hown hK hP hD hS 0 0 rfl rfl rfl 4 (by decide) (hts (.fieldLink R_Q 15 "PartShelves$Part" "day" "I") (by decide +kernel)) (fun _ h9 => h9) rfl (by decide +kernel) (rfl) (rfl) (Nat.le_of_ble_eq_true rfl) d_Q_holdFor_12 (fun H locs hP hD hS => ?_)
  have hP : va_P D cls (fl [(wQ h ki ag se 1 y (nI k) pe)]) H := hP
  have hD : va_D A (fl [(wQ h ki ag se 1 y (nI k) pe)]) := hD
  exact W.vret hx hb hr (fun t ht hW => by subst hAe; exact ⟨⟨(), rfl, trivial, by rw [ht]; exact hP, va_K.moved hW.alike hK, hD⟩, hS.F ht⟩) (by subst hAe; exact hS.2.2) d_Q_holdFor_15

abbrev b_Q_sellTo : ByteArray := prog_5_method_5_code
def y_Q_sellTo : MethodName := ⟨"PartShelves$Part", "sellTo", "(II)V"⟩
theorem d_Q_sellTo_0 : decode b_Q_sellTo 0 = .ok (.aload_n 0, 1) := by decide +kernel
theorem d_Q_sellTo_1 : decode b_Q_sellTo 1 = .ok (.iconst 2, 1) := by decide +kernel
theorem d_Q_sellTo_2 : decode b_Q_sellTo 2 = .ok (.putfield 9, 3) := by decide +kernel
theorem d_Q_sellTo_5 : decode b_Q_sellTo 5 = .ok (.aload_n 0, 1) := by decide +kernel
theorem d_Q_sellTo_6 : decode b_Q_sellTo 6 = .ok (.iload_n 1, 1) := by decide +kernel
theorem d_Q_sellTo_7 : decode b_Q_sellTo 7 = .ok (.putfield 21, 3) := by decide +kernel
theorem d_Q_sellTo_10 : decode b_Q_sellTo 10 = .ok (.aload_n 0, 1) := by decide +kernel
theorem d_Q_sellTo_11 : decode b_Q_sellTo 11 = .ok (.iload_n 2, 1) := by decide +kernel
theorem d_Q_sellTo_12 : decode b_Q_sellTo 12 = .ok (.putfield 15, 3) := by decide +kernel
theorem d_Q_sellTo_15 : decode b_Q_sellTo 15 = .ok (.return_, 1) := by decide +kernel
def w_Q_sellTo : List Cond := .code y_Q_sellTo b_Q_sellTo 3 none :: ([.fieldLink "PartShelves$Part" 9 "PartShelves$Part" "state" "I", .fieldLink "PartShelves$Part" 21 "PartShelves$Part" "person" "I", .fieldLink "PartShelves$Part" 15 "PartShelves$Part" "day" "I"] ++ u_ws R_Q F_Q 7)
set_option maxHeartbeats 4000000 in
set_option maxRecDepth 100000 in
theorem c_Q_sell (l : Launch) (D : va_G) (kC : Nat → ClassId) (h : Nat) (ki : Nat) (ag : Nat) (se : Nat) (sa : Nat) (dy : Nat) (ho : Int32) (pe : Int32) (k : Nat) (y : Nat) (sz : Nat) : Met l y_Q_sellTo w_Q_sellTo ({ frames := 0, cells := 0, slots := 0, locals := 0 } : Room) (gPre cls D (tyL kC) [.ref h, .int (nI k), .int (nI y)] (fl [(wQ h ki ag se sa dy ho pe)]) sz) (gQv cls D (tyL kC) (fl [(wQ h ki ag se sa dy ho pe)]) sz (fl [(wQ h ki ag se 2 y ho (nI k))])) 0 0 (va_A (fl [(wQ h ki ag se sa dy ho pe)]) sz) := by
  refine Met.ofW (cc := b_Q_sellTo) (maxL := 3) (ret := none) (by decide) rfl ?_
  intro p e s m args below meth c s₁ B hml hv
  obtain ⟨rfl, hsz, hP, hK, hD0⟩ := hv
  have hx := B.exec
  have hb := B.bytes
  have hr := B.returns
  have hts := atoms_spec (ws := w_Q_sellTo) B.pre
  have hown : s.vm.findClass R_Q = some m.cls := findClass_of_methodNamed B.named
  have hlocks := B.notSynchronized
  subst hsz
  obtain ⟨A, hAe⟩ : ∃ A : Nat → Prop, A = va_A (fl [(wQ h ki ag se sa dy ho pe)]) s.heap.size := ⟨_, rfl⟩
  have hD : va_D A (fl [(wQ h ki ag se sa dy ho pe)]) := by rw [hAe]; exact hD0.self
  have hA : ∀ q : Nat, s.heap.size ≤ q → A q := fun q h => by rw [hAe]; exact Or.inr h
  have hS : va_S A s.heap s.heap [] := va_S.rf
  have hl := lv_entry ([.ref h, .int (nI k), .int (nI y)]) (n := 3) (Nat.le_of_ble_eq_true rfl)
  rw [lg_entry_eq]
  generalize (lg_sl ([.ref h, .int (nI k), .int (nI y)]) ++ List.replicate (3 - (lg_sl ([.ref h, .int (nI k), .int (nI y)])).length) Slot.unset).toArray = ls at hl ⊢
  have hl : lv_has ls 3 [(0, .ref h), (1, .int (nI k)), (2, .int (nI y))] := hl
  refine lv_aload_n hx hb d_Q_sellTo_0 rfl (lv_at hl 0 rfl) ?_
  refine lv_iconst (v := nI 2) hx hb d_Q_sellTo_1 (by decide) ?_
  refine fv_put (ci := 4) (v := .int (nI 2)) (ty := (.int)) (C := R_Q) (T := F_Q) (N := 7) hx hb hts (by decide +kernel) t_Q t_Q_ok n_Q hown hK hP hD hS 0 0 rfl rfl rfl 3 (by decide) (hts (.fieldLink R_Q 9 "PartShelves$Part" "state" "I") (by decide +kernel)) (fun _ h9 => h9) rfl (by decide +kernel) (rfl) (rfl) (Nat.le_of_ble_eq_true rfl) d_Q_sellTo_2 (fun H locs hP hD hS => ?_)
  have hP : va_P D cls (fl [(wQ h ki ag se 2 dy ho pe)]) H := hP
  have hD : va_D A (fl [(wQ h ki ag se 2 dy ho pe)]) := hD
  refine lv_aload_n hx hb d_Q_sellTo_5 rfl (lv_at hl 0 rfl) ?_
  refine lv_iload_n hx hb d_Q_sellTo_6 rfl (lv_at hl 1 rfl) ?_
  refine fv_put (ci := 4) (v := .int (nI k)) (ty := (.int)) (C := R_Q) (T := F_Q) (N := 7) hx hb hts (by decide +kernel) t_Q t_Q_ok n_Q hown hK hP hD hS 0 0 rfl rfl rfl 6 (by decide) (hts (.fieldLink R_Q 21 "PartShelves$Part" "person" "I") (by decide +kernel)) (fun _ h9 => h9) rfl (by decide +kernel) (rfl) (rfl) (Nat.le_of_ble_eq_true rfl) d_Q_sellTo_7 (fun H locs hP hD hS => ?_)
  have hP : va_P D cls (fl [(wQ h ki ag se 2 dy ho (nI k))]) H := hP
  have hD : va_D A (fl [(wQ h ki ag se 2 dy ho (nI k))]) := hD
  refine lv_aload_n hx hb d_Q_sellTo_10 rfl (lv_at hl 0 rfl) ?_
  refine lv_iload_n hx hb d_Q_sellTo_11 rfl (lv_at hl 2 rfl) ?_
  refine fv_put (ci := 4) (v := .int (nI y)) (ty := (.int)) (C := R_Q) (T := F_Q) (N := 7) hx hb hts (by decide +kernel) t_Q t_Q_ok n_Q hown hK hP hD hS 0 0 rfl rfl rfl 4 (by decide) (hts (.fieldLink R_Q 15 "PartShelves$Part" "day" "I") (by decide +kernel)) (fun _ h9 => h9) rfl (by decide +kernel) (rfl) (rfl) (Nat.le_of_ble_eq_true rfl) d_Q_sellTo_12 (fun H locs hP hD hS => ?_)
  have hP : va_P D cls (fl [(wQ h ki ag se 2 y ho (nI k))]) H := hP
  have hD : va_D A (fl [(wQ h ki ag se 2 y ho (nI k))]) := hD
  exact W.vret hx hb hr (fun t ht hW => by subst hAe; exact ⟨⟨(), rfl, trivial, by rw [ht]; exact hP, va_K.moved hW.alike hK, hD⟩, hS.F ht⟩) (by subst hAe; exact hS.2.2) d_Q_sellTo_15

/-- an ask -/
def wA (h : Nat) (nu : Nat) (pr : Nat) (ce : Nat) (mi : Nat) (op : Int32) : va_W := [(h, .inr (1, [.int (nI nu), .int (nI pr), .long (lN ce), .long (lN mi), .int (op)]))]
abbrev b_A_standsBefore : ByteArray := prog_2_method_2_code
def y_A_standsBefore : MethodName := ⟨"PartShelves$Ask", "standsBefore", "(LPartShelves$Ask;)Z"⟩
theorem d_A_standsBefore_0 : decode b_A_standsBefore 0 = .ok (.aload_n 0, 1) := by decide +kernel
theorem d_A_standsBefore_1 : decode b_A_standsBefore 1 = .ok (.getfield 24, 3) := by decide +kernel
theorem d_A_standsBefore_4 : decode b_A_standsBefore 4 = .ok (.aload_n 1, 1) := by decide +kernel
theorem d_A_standsBefore_5 : decode b_A_standsBefore 5 = .ok (.getfield 24, 3) := by decide +kernel
theorem d_A_standsBefore_8 : decode b_A_standsBefore 8 = .ok (.lcmp, 1) := by decide +kernel
theorem d_A_standsBefore_9 : decode b_A_standsBefore 9 = .ok (.ifCond .lt 26, 3) := by decide +kernel
theorem d_A_standsBefore_12 : decode b_A_standsBefore 12 = .ok (.aload_n 0, 1) := by decide +kernel
theorem d_A_standsBefore_13 : decode b_A_standsBefore 13 = .ok (.getfield 24, 3) := by decide +kernel
theorem d_A_standsBefore_16 : decode b_A_standsBefore 16 = .ok (.aload_n 1, 1) := by decide +kernel
theorem d_A_standsBefore_17 : decode b_A_standsBefore 17 = .ok (.getfield 24, 3) := by decide +kernel
theorem d_A_standsBefore_20 : decode b_A_standsBefore 20 = .ok (.lcmp, 1) := by decide +kernel
theorem d_A_standsBefore_21 : decode b_A_standsBefore 21 = .ok (.ifCond .ne 18, 3) := by decide +kernel
theorem d_A_standsBefore_24 : decode b_A_standsBefore 24 = .ok (.aload_n 0, 1) := by decide +kernel
theorem d_A_standsBefore_25 : decode b_A_standsBefore 25 = .ok (.getfield 13, 3) := by decide +kernel
theorem d_A_standsBefore_28 : decode b_A_standsBefore 28 = .ok (.aload_n 1, 1) := by decide +kernel
theorem d_A_standsBefore_29 : decode b_A_standsBefore 29 = .ok (.getfield 13, 3) := by decide +kernel
theorem d_A_standsBefore_32 : decode b_A_standsBefore 32 = .ok (.if_icmp .ge 7, 3) := by decide +kernel
theorem d_A_standsBefore_35 : decode b_A_standsBefore 35 = .ok (.iconst 1, 1) := by decide +kernel
theorem d_A_standsBefore_36 : decode b_A_standsBefore 36 = .ok (.goto 4, 3) := by decide +kernel
theorem d_A_standsBefore_39 : decode b_A_standsBefore 39 = .ok (.iconst 0, 1) := by decide +kernel
theorem d_A_standsBefore_40 : decode b_A_standsBefore 40 = .ok (.ireturn, 1) := by decide +kernel
def w_A_standsBefore : List Cond := .code y_A_standsBefore b_A_standsBefore 2 (some .boolean) :: ([.fieldLink "PartShelves$Ask" 24 "PartShelves$Ask" "minute" "J", .fieldLink "PartShelves$Ask" 13 "PartShelves$Ask" "number" "I"] ++ u_ws R_A F_A 5)
set_option maxHeartbeats 4000000 in
set_option maxRecDepth 100000 in
theorem c_A_before (l : Launch) (D : va_G) (kC : Nat → ClassId) (h : Nat) (nu : Nat) (pr : Nat) (ce : Nat) (mi : Nat) (op : Int32) (h2 : Nat) (nu2 : Nat) (pr2 : Nat) (ce2 : Nat) (mi2 : Nat) (op2 : Int32) (hm : mi < 2 ^ 31) (hm2 : mi2 < 2 ^ 31) (hn : nu < 8) (hn2 : nu2 < 8) : Met l y_A_standsBefore w_A_standsBefore ({ frames := 0, cells := 0, slots := 0, locals := 0 } : Room) (gPr cls D (tyL kC) [.ref h, .ref h2] (fl [(wA h nu pr ce mi op), (wA h2 nu2 pr2 ce2 mi2 op2)])) (vp_Si (fun r => r = bI (mi < mi2 ∨ (mi = mi2 ∧ nu < nu2)))) 0 0 (fun _ => False) := by
  refine Met.ofW (cc := b_A_standsBefore) (maxL := 2) (ret := (some .boolean)) (by decide) rfl ?_
  intro p e s m args below meth c s₁ B hml hv
  obtain ⟨rfl, hP, hK⟩ := hv
  have hx := B.exec
  have hb := B.bytes
  have hr := B.returns
  have hts := atoms_spec (ws := w_A_standsBefore) B.pre
  have hown : s.vm.findClass R_A = some m.cls := findClass_of_methodNamed B.named
  have hlocks := B.notSynchronized
  have hl := lv_entry ([.ref h, .ref h2]) (n := 2) (Nat.le_of_ble_eq_true rfl)
  rw [lg_entry_eq]
  generalize (lg_sl ([.ref h, .ref h2]) ++ List.replicate (2 - (lg_sl ([.ref h, .ref h2])).length) Slot.unset).toArray = ls at hl ⊢
  have hl : lv_has ls 2 [(0, .ref h), (1, .ref h2)] := hl
  refine lv_aload_n hx hb d_A_standsBefore_0 rfl (lv_at hl 0 rfl) ?_
  refine fv_get (ci := 1) (v := .long (lN mi)) (C := R_A) (T := F_A) (N := 5) hx hb hts (by decide +kernel) hown hK hP 0 0 rfl rfl rfl 3 (by decide) (hts (.fieldLink R_A 24 "PartShelves$Ask" "minute" "J") (by decide +kernel)) (fun _ h9 => h9) rfl d_A_standsBefore_1 ?_
  refine lv_aload_n hx hb d_A_standsBefore_4 rfl (lv_at hl 1 rfl) ?_
  refine fv_get (ci := 1) (v := .long (lN mi2)) (C := R_A) (T := F_A) (N := 5) hx hb hts (by decide +kernel) hown hK hP 1 0 rfl rfl rfl 3 (by decide) (hts (.fieldLink R_A 24 "PartShelves$Ask" "minute" "J") (by decide +kernel)) (fun _ h9 => h9) rfl d_A_standsBefore_5 ?_
  refine lc_lt (tgt := 35) hx hb d_A_standsBefore_8 d_A_standsBefore_9 (by decide) (fun h1 => ?_) (fun h1 => ?_)
  · refine lv_iconst (v := nI 1) hx hb d_A_standsBefore_35 (by decide) ?_
    refine lv_goto (tgt := 40) hx hb d_A_standsBefore_36 (by decide) ?_
    exact W.zret (v := nI 1) hx hb hr (nar_b (by first | exact Or.inl rfl | exact Or.inr rfl | exact bI_01)) (fun t ht hW => ⟨_, rfl, (bI_t (by first | exact Or.inl ((lN_lt hm hm2).mp h1) | exact Or.inr ⟨(lN_eq hm hm2).mp h2, h3⟩)).symm, ht⟩) t_nil d_A_standsBefore_40
  · refine lv_aload_n hx hb d_A_standsBefore_12 rfl (lv_at hl 0 rfl) ?_
    refine fv_get (ci := 1) (v := .long (lN mi)) (C := R_A) (T := F_A) (N := 5) hx hb hts (by decide +kernel) hown hK hP 0 0 rfl rfl rfl 3 (by decide) (hts (.fieldLink R_A 24 "PartShelves$Ask" "minute" "J") (by decide +kernel)) (fun _ h9 => h9) rfl d_A_standsBefore_13 ?_
    refine lv_aload_n hx hb d_A_standsBefore_16 rfl (lv_at hl 1 rfl) ?_
    refine fv_get (ci := 1) (v := .long (lN mi2)) (C := R_A) (T := F_A) (N := 5) hx hb hts (by decide +kernel) hown hK hP 1 0 rfl rfl rfl 3 (by decide) (hts (.fieldLink R_A 24 "PartShelves$Ask" "minute" "J") (by decide +kernel)) (fun _ h9 => h9) rfl d_A_standsBefore_17 ?_
    refine lc_ne (tgt := 39) hx hb d_A_standsBefore_20 d_A_standsBefore_21 (by decide) (fun h2 => ?_) (fun h2 => ?_)
    · refine lv_iconst (v := nI 0) hx hb d_A_standsBefore_39 (by decide) ?_
      exact W.zret (v := nI 0) hx hb hr (nar_b (by first | exact Or.inl rfl | exact Or.inr rfl | exact bI_01)) (fun t ht hW => ⟨_, rfl, (bI_f (fun q => q.elim (fun z => h1 ((lN_lt hm hm2).mpr z)) (fun z => by first | exact h2 ((lN_eq hm hm2).mpr z.1) | omega))).symm, ht⟩) t_nil d_A_standsBefore_40
    · refine lv_aload_n hx hb d_A_standsBefore_24 rfl (lv_at hl 0 rfl) ?_
      refine fv_get (ci := 1) (v := .int (nI nu)) (C := R_A) (T := F_A) (N := 5) hx hb hts (by decide +kernel) hown hK hP 0 0 rfl rfl rfl 0 (by decide) (hts (.fieldLink R_A 13 "PartShelves$Ask" "number" "I") (by decide +kernel)) (fun _ h9 => h9) rfl d_A_standsBefore_25 ?_
      refine lv_aload_n hx hb d_A_standsBefore_28 rfl (lv_at hl 1 rfl) ?_
      refine fv_get (ci := 1) (v := .int (nI nu2)) (C := R_A) (T := F_A) (N := 5) hx hb hts (by decide +kernel) hown hK hP 1 0 rfl rfl rfl 0 (by decide) (hts (.fieldLink R_A 13 "PartShelves$Ask" "number" "I") (by decide +kernel)) (fun _ h9 => h9) rfl d_A_standsBefore_29 ?_
      refine nv_icmp_ge (tgt := 39) hx hb d_A_standsBefore_32 (by decide) (by omega) (by omega) (fun h3 => ?_) (fun h3 => ?_)
      · refine lv_iconst (v := nI 0) hx hb d_A_standsBefore_39 (by decide) ?_
        exact W.zret (v := nI 0) hx hb hr (nar_b (by first | exact Or.inl rfl | exact Or.inr rfl | exact bI_01)) (fun t ht hW => ⟨_, rfl, (bI_f (fun q => q.elim (fun z => h1 ((lN_lt hm hm2).mpr z)) (fun z => by first | exact h2 ((lN_eq hm hm2).mpr z.1) | omega))).symm, ht⟩) t_nil d_A_standsBefore_40
      · refine lv_iconst (v := nI 1) hx hb d_A_standsBefore_35 (by decide) ?_
        refine lv_goto (tgt := 40) hx hb d_A_standsBefore_36 (by decide) ?_
        exact W.zret (v := nI 1) hx hb hr (nar_b (by first | exact Or.inl rfl | exact Or.inr rfl | exact bI_01)) (fun t ht hW => ⟨_, rfl, (bI_t (by first | exact Or.inl ((lN_lt hm hm2).mp h1) | exact Or.inr ⟨(lN_eq hm hm2).mp h2, h3⟩)).symm, ht⟩) t_nil d_A_standsBefore_40
end
section
/-- the reference's cells -/
def wO (kC : Nat → ClassId) (ad : Nat → Nat) (td : Nat) (rn : Nat) (pn : Nat) (an : Nat) (jn : Nat) (tn : Nat) (bm : Int32) (fw : Int64) (gp : Nat) (ga : Nat) (bp : Int32) (fc : Int64) (fj : Nat) (rA : Nat → Nat) (rC : Nat → Nat) (ft : Nat → Int32) (kd : Nat → Nat) (aG : Nat → Nat) (sR : Nat → Nat) (sT : Nat → Nat) (wh : Nat → Nat) (dY : Nat → Nat) (pd : Nat → Nat) (cN : Nat → Nat) (mN : Nat → Nat) (sv : Nat → Int32) (nd : Nat → Nat) (wr : Nat → Nat) (tl : Nat → Nat) (lt : Nat → Int32) (lT : Nat → Nat) (lD : Nat → Nat) (gv : Nat → Int32) (gn : Nat → Int64) (od : Nat → Nat) (br : Nat → Nat) : va_W := [(ad 0, .inr (7, [.int (nI td), .int (nI rn), .ref (ad 1), .ref (ad 2), .ref (ad 3), .int (nI pn), .ref (ad 4), .ref (ad 5), .ref (ad 6), .ref (ad 7), .ref (ad 8), .ref (ad 9), .int (nI an), .ref (ad 10), .ref (ad 11), .ref (ad 12), .ref (ad 13), .int (nI jn), .ref (ad 14), .ref (ad 15), .int (nI tn), .ref (ad 16), .ref (ad 17), .ref (ad 18), .ref (ad 19), .int (bm), .long (fw), .ref (ad 20), .int (nI gp), .int (nI ga), .ref (ad 21), .int (bp), .long (fc), .int (nI fj), .ref (ad 22), .ref (ad 23)])), (ad 1, .inl (kC 0, 6, .inl (fun j => nI (rA j)))), (ad 2, .inl (kC 1, 6, .inr (.inl (fun j => lN (rC j))))), (ad 3, .inl (kC 2, 36, .inl ft)), (ad 4, .inl (kC 0, 8, .inl (fun j => nI (kd j)))), (ad 5, .inl (kC 0, 8, .inl (fun j => nI (aG j)))), (ad 6, .inl (kC 1, 8, .inr (.inl (fun j => lN (sR j))))), (ad 7, .inl (kC 0, 8, .inl (fun j => nI (sT j)))), (ad 8, .inl (kC 0, 8, .inl (fun j => nI (wh j)))), (ad 9, .inl (kC 0, 8, .inl (fun j => nI (dY j)))), (ad 10, .inl (kC 0, 8, .inl (fun j => nI (pd j)))), (ad 11, .inl (kC 1, 8, .inr (.inl (fun j => lN (cN j))))), (ad 12, .inl (kC 1, 8, .inr (.inl (fun j => lN (mN j))))), (ad 13, .inl (kC 2, 8, .inl sv)), (ad 14, .inl (kC 0, 36, .inl (fun j => nI (nd j)))), (ad 15, .inl (kC 0, 6, .inl (fun j => nI (wr j)))), (ad 16, .inl (kC 0, 8, .inl (fun j => nI (tl j)))), (ad 17, .inl (kC 2, 4, .inl lt)), (ad 18, .inl (kC 0, 4, .inl (fun j => nI (lT j)))), (ad 19, .inl (kC 0, 4, .inl (fun j => nI (lD j)))), (ad 20, .inl (kC 0, 8, .inl gv)), (ad 21, .inl (kC 1, 16, .inr (.inl gn))), (ad 22, .inl (kC 0, 8, .inl (fun j => nI (od j)))), (ad 23, .inl (kC 1, 2304, .inr (.inl (fun j => lN (br j)))))]
/-! arguments in ranges -/
abbrev inI (a b : Nat) (x : Int32) : Prop := (a : Int) ≤ x.toInt ∧ x.toInt ≤ (b : Int)
abbrev inL (a b : Nat) (x : Int64) : Prop := (a : Int) ≤ x.toInt ∧ x.toInt ≤ (b : Int)
abbrev nOf (x : Int32) : Nat := x.toInt.toNat
abbrev nOfL (x : Int64) : Nat := x.toInt.toNat
theorem inL_i {a b : Nat} {x : Int32} : inL a b x.toInt64 ↔ inI a b x := by unfold inL inI; rw [Int32.toInt_toInt64]
theorem inI_n {a b : Nat} {x : Int32} (hb : b < 2 ^ 31) (h : inI a b x) : ∃ j : Nat, a ≤ j ∧ j ≤ b ∧ x = nI j := by
  refine ⟨x.toInt.toNat, by omega, by omega, ?_⟩
  apply Int32.toInt_inj.mp
  rw [nI_toInt (by omega)]
  omega
theorem inL_n {a b : Nat} {x : Int64} (hb : b < 2 ^ 31) (h : inL a b x) : ∃ j : Nat, a ≤ j ∧ j ≤ b ∧ x = lN j := by
  refine ⟨x.toInt.toNat, by omega, by omega, ?_⟩
  apply Int64.toInt_inj.mp
  rw [lN_toInt (by omega)]
  omega
theorem inR_n {x : Int32} {n : Nat} (hn : n < 2 ^ 31) (h : inR x n) : ∃ j : Nat, j < n ∧ x = nI j := by
  refine ⟨x.toInt.toNat, by omega, ?_⟩
  apply Int32.toInt_inj.mp
  rw [nI_toInt (by omega)]
  omega
theorem nOf_nI {j : Nat} (h : j < 2 ^ 31) : nOf (nI j) = j := by unfold nOf; rw [nI_toInt h]; rfl
theorem nOfL_lN {j : Nat} (h : j < 2 ^ 31) : nOfL (lN j) = j := by unfold nOfL; rw [lN_toInt h]; rfl
theorem lN_leI {a : Nat} (ha : a < 2 ^ 31) {x : Int64} : lN a ≤ x ↔ (a : Int) ≤ x.toInt := by rw [Int64.le_iff_toInt_le, lN_toInt ha]
theorem lN_leI' {a : Nat} (ha : a < 2 ^ 31) {x : Int64} : x ≤ lN a ↔ x.toInt ≤ (a : Int) := by rw [Int64.le_iff_toInt_le, lN_toInt ha]
/-- the price by the rows: the last row that is not above the age -/
def prM (rA rC : Nat → Nat) (x : Nat) : Nat → Nat
  | 0 => 0
  | i + 1 => if rA i ≤ x then rC i else prM rA rC x i
theorem prM_le {rA rC : Nat → Nat} {x B : Nat} (h : ∀ j, rC j ≤ B) : ∀ n, prM rA rC x n ≤ B
  | 0 => Nat.zero_le _
  | n + 1 => by
    show (if rA n ≤ x then rC n else prM rA rC x n) ≤ B
    split
    · exact h n
    · exact prM_le h n
/-- an ask is open -/
abbrev opn (sv : Nat → Int32) (an : Nat) (x : Int32) : Prop := inR x an ∧ sv x.toNatClampNeg = 0
theorem opn_nI {sv : Nat → Int32} {an k : Nat} (hk : k < 2 ^ 31) : opn sv an (nI k) ↔ k < an ∧ sv k = 0 := by
  unfold opn
  rw [inR_nI hk, nI_clamp hk]
/-- a part and an ask are a pair now -/
abbrev prsO (td rn an : Nat) (rA rC : Nat → Nat) (ft : Nat → Int32) (kd aG sT wh dY pd cN : Nat → Nat) (sv : Nat → Int32) (q a : Nat) : Prop :=
  (stOn (sT q) (dY q) td = 0 ∨ (stOn (sT q) (dY q) td = 1 ∧ wh q = a)) ∧ (a < an ∧ sv a = 0) ∧ ¬ ft (6 * kd q + pd a) = 0 ∧ prM rA rC (aG q) rn ≤ cN a
abbrev b_O_isIn : ByteArray := prog_9_method_3_code
def y_O_isIn : MethodName := ⟨"PartShelvesModel", "isIn", "(JJJ)Z"⟩
theorem d_O_isIn_0 : decode b_O_isIn 0 = .ok (.lload_n 0, 1) := by decide +kernel
theorem d_O_isIn_1 : decode b_O_isIn 1 = .ok (.lload_n 2, 1) := by decide +kernel
theorem d_O_isIn_2 : decode b_O_isIn 2 = .ok (.lcmp, 1) := by decide +kernel
theorem d_O_isIn_3 : decode b_O_isIn 3 = .ok (.ifCond .lt 14, 3) := by decide +kernel
theorem d_O_isIn_6 : decode b_O_isIn 6 = .ok (.lload_n 0, 1) := by decide +kernel
theorem d_O_isIn_7 : decode b_O_isIn 7 = .ok (.lload 4, 2) := by decide +kernel
theorem d_O_isIn_9 : decode b_O_isIn 9 = .ok (.lcmp, 1) := by decide +kernel
theorem d_O_isIn_10 : decode b_O_isIn 10 = .ok (.ifCond .gt 7, 3) := by decide +kernel
theorem d_O_isIn_13 : decode b_O_isIn 13 = .ok (.iconst 1, 1) := by decide +kernel
theorem d_O_isIn_14 : decode b_O_isIn 14 = .ok (.goto 4, 3) := by decide +kernel
theorem d_O_isIn_17 : decode b_O_isIn 17 = .ok (.iconst 0, 1) := by decide +kernel
theorem d_O_isIn_18 : decode b_O_isIn 18 = .ok (.ireturn, 1) := by decide +kernel
def w_O_isIn : List Cond := .code y_O_isIn b_O_isIn 6 (some .boolean) :: ([])
set_option maxHeartbeats 4000000 in
set_option maxRecDepth 100000 in
theorem c_O_isIn (l : Launch) (x : Int64) (a : Nat) (b : Nat) (ha : a < 2 ^ 31) (hb2 : b < 2 ^ 31) : Met l y_O_isIn w_O_isIn ({ frames := 0, cells := 0, slots := 0, locals := 0 } : Room) (gP0 [.long x, .long (lN a), .long (lN b)]) (vp_Si (fun r => r = bI (inL a b x))) 0 0 (fun _ => False) := by
  refine Met.ofW (cc := b_O_isIn) (maxL := 6) (ret := (some .boolean)) (by decide) rfl ?_
  intro p e s m args below meth c s₁ B hml hv
  obtain rfl := hv
  have hx := B.exec
  have hb := B.bytes
  have hr := B.returns
  have hts := atoms_spec (ws := w_O_isIn) B.pre
  have hown : s.vm.findClass R_O = some m.cls := findClass_of_methodNamed B.named
  have hlocks := B.notSynchronized
  have hl := lv_entry ([.long x, .long (lN a), .long (lN b)]) (n := 6) (Nat.le_of_ble_eq_true rfl)
  rw [lg_entry_eq]
  generalize (lg_sl ([.long x, .long (lN a), .long (lN b)]) ++ List.replicate (6 - (lg_sl ([.long x, .long (lN a), .long (lN b)])).length) Slot.unset).toArray = ls at hl ⊢
  have hl : lv_has ls 6 [(0, .long x), (2, .long (lN a)), (4, .long (lN b))] := hl
  refine lv_lload_n hx hb d_O_isIn_0 rfl (lv_at hl 0 rfl) ?_
  refine lv_lload_n hx hb d_O_isIn_1 rfl (lv_at hl 1 rfl) ?_
  refine lc_lt (tgt := 17) hx hb d_O_isIn_2 d_O_isIn_3 (by decide) (fun h1 => ?_) (fun h1 => ?_)
  · refine lv_iconst (v := nI 0) hx hb d_O_isIn_17 (by decide) ?_
    exact W.zret (v := nI 0) hx hb hr (nar_b (by first | exact Or.inl rfl | exact Or.inr rfl | exact bI_01)) (fun t ht hW => ⟨_, rfl, (bI_f (fun q => by first | exact absurd ((lN_leI' hb2).mpr q.2) (by simpa using h2) | exact absurd ((lN_leI ha).mpr q.1) (by simpa using h1))).symm, ht⟩) t_nil d_O_isIn_18
  · refine lv_lload_n hx hb d_O_isIn_6 rfl (lv_at hl 0 rfl) ?_
    refine lv_lload hx hb d_O_isIn_7 (lv_at hl 2 rfl) ?_
    refine lc_gt (tgt := 17) hx hb d_O_isIn_9 d_O_isIn_10 (by decide) (fun h2 => ?_) (fun h2 => ?_)
    · refine lv_iconst (v := nI 0) hx hb d_O_isIn_17 (by decide) ?_
      exact W.zret (v := nI 0) hx hb hr (nar_b (by first | exact Or.inl rfl | exact Or.inr rfl | exact bI_01)) (fun t ht hW => ⟨_, rfl, (bI_f (fun q => by first | exact absurd ((lN_leI' hb2).mpr q.2) (by simpa using h2) | exact absurd ((lN_leI ha).mpr q.1) (by simpa using h1))).symm, ht⟩) t_nil d_O_isIn_18
    · refine lv_iconst (v := nI 1) hx hb d_O_isIn_13 (by decide) ?_
      refine lv_goto (tgt := 18) hx hb d_O_isIn_14 (by decide) ?_
      exact W.zret (v := nI 1) hx hb hr (nar_b (by first | exact Or.inl rfl | exact Or.inr rfl | exact bI_01)) (fun t ht hW => ⟨_, rfl, (bI_t ⟨(lN_leI ha).mp (by simpa using h1), (lN_leI' hb2).mp (by simpa using h2)⟩).symm, ht⟩) t_nil d_O_isIn_18

abbrev b_O_isKind : ByteArray := prog_9_method_4_code
def y_O_isKind : MethodName := ⟨"PartShelvesModel", "isKind", "(I)Z"⟩
theorem d_O_isKind_0 : decode b_O_isKind 0 = .ok (.iload_n 0, 1) := by decide +kernel
theorem d_O_isKind_1 : decode b_O_isKind 1 = .ok (.ifCond .lt 13, 3) := by decide +kernel
theorem d_O_isKind_4 : decode b_O_isKind 4 = .ok (.iload_n 0, 1) := by decide +kernel
theorem d_O_isKind_5 : decode b_O_isKind 5 = .ok (.bipush 6, 2) := by decide +kernel
theorem d_O_isKind_7 : decode b_O_isKind 7 = .ok (.if_icmp .ge 7, 3) := by decide +kernel
theorem d_O_isKind_10 : decode b_O_isKind 10 = .ok (.iconst 1, 1) := by decide +kernel
theorem d_O_isKind_11 : decode b_O_isKind 11 = .ok (.goto 4, 3) := by decide +kernel
theorem d_O_isKind_14 : decode b_O_isKind 14 = .ok (.iconst 0, 1) := by decide +kernel
theorem d_O_isKind_15 : decode b_O_isKind 15 = .ok (.ireturn, 1) := by decide +kernel
def w_O_isKind : List Cond := .code y_O_isKind b_O_isKind 1 (some .boolean) :: ([])
set_option maxHeartbeats 4000000 in
set_option maxRecDepth 100000 in
theorem c_O_isKind (l : Launch) (x : Int32) : Met l y_O_isKind w_O_isKind ({ frames := 0, cells := 0, slots := 0, locals := 0 } : Room) (gP0 [.int x]) (vp_Si (fun r => r = bI (inR x 6))) 0 0 (fun _ => False) := by
  refine Met.ofW (cc := b_O_isKind) (maxL := 1) (ret := (some .boolean)) (by decide) rfl ?_
  intro p e s m args below meth c s₁ B hml hv
  obtain rfl := hv
  have hx := B.exec
  have hb := B.bytes
  have hr := B.returns
  have hts := atoms_spec (ws := w_O_isKind) B.pre
  have hown : s.vm.findClass R_O = some m.cls := findClass_of_methodNamed B.named
  have hlocks := B.notSynchronized
  have hl := lv_entry ([.int x]) (n := 1) (Nat.le_of_ble_eq_true rfl)
  rw [lg_entry_eq]
  generalize (lg_sl ([.int x]) ++ List.replicate (1 - (lg_sl ([.int x])).length) Slot.unset).toArray = ls at hl ⊢
  have hl : lv_has ls 1 [(0, .int x)] := hl
  refine lv_iload_n hx hb d_O_isKind_0 rfl (lv_at hl 0 rfl) ?_
  refine lv_if_lt (tgt := 14) hx hb d_O_isKind_1 (by decide) (fun h0 => ?_) (fun h0 => ?_)
  · refine lv_iconst (v := nI 0) hx hb d_O_isKind_14 (by decide) ?_
    exact W.zret (v := nI 0) hx hb hr (nar_b (by first | exact Or.inl rfl | exact Or.inr rfl | exact bI_01)) (fun t ht hW => ⟨_, rfl, (bI_f (by first | exact inR_ge (by decide) h1 | exact inR_lt h0)).symm, ht⟩) t_nil d_O_isKind_15
  · refine lv_iload_n hx hb d_O_isKind_4 rfl (lv_at hl 0 rfl) ?_
    refine lv_bipush (v := nI 6) hx hb d_O_isKind_5 (by decide +kernel) ?_
    refine lv_icmp_ge (tgt := 14) hx hb d_O_isKind_7 (by decide) (fun h1 => ?_) (fun h1 => ?_)
    · refine lv_iconst (v := nI 0) hx hb d_O_isKind_14 (by decide) ?_
      exact W.zret (v := nI 0) hx hb hr (nar_b (by first | exact Or.inl rfl | exact Or.inr rfl | exact bI_01)) (fun t ht hW => ⟨_, rfl, (bI_f (by first | exact inR_ge (by decide) h1 | exact inR_lt h0)).symm, ht⟩) t_nil d_O_isKind_15
    · refine lv_iconst (v := nI 1) hx hb d_O_isKind_10 (by decide) ?_
      refine lv_goto (tgt := 15) hx hb d_O_isKind_11 (by decide) ?_
      exact W.zret (v := nI 1) hx hb hr (nar_b (by first | exact Or.inl rfl | exact Or.inr rfl | exact bI_01)) (fun t ht hW => ⟨_, rfl, (bI_t (by obtain ⟨j, hj, rfl⟩ := in_of (by decide) h0 h1; exact (inR_nI (by omega)).mpr hj)).symm, ht⟩) t_nil d_O_isKind_15

abbrev b_O_isPerson : ByteArray := prog_9_method_5_code
def y_O_isPerson : MethodName := ⟨"PartShelvesModel", "isPerson", "(I)Z"⟩
theorem d_O_isPerson_0 : decode b_O_isPerson 0 = .ok (.iload_n 0, 1) := by decide +kernel
theorem d_O_isPerson_1 : decode b_O_isPerson 1 = .ok (.ifCond .lt 13, 3) := by decide +kernel
theorem d_O_isPerson_4 : decode b_O_isPerson 4 = .ok (.iload_n 0, 1) := by decide +kernel
theorem d_O_isPerson_5 : decode b_O_isPerson 5 = .ok (.bipush 10, 2) := by decide +kernel
theorem d_O_isPerson_7 : decode b_O_isPerson 7 = .ok (.if_icmp .ge 7, 3) := by decide +kernel
theorem d_O_isPerson_10 : decode b_O_isPerson 10 = .ok (.iconst 1, 1) := by decide +kernel
theorem d_O_isPerson_11 : decode b_O_isPerson 11 = .ok (.goto 4, 3) := by decide +kernel
theorem d_O_isPerson_14 : decode b_O_isPerson 14 = .ok (.iconst 0, 1) := by decide +kernel
theorem d_O_isPerson_15 : decode b_O_isPerson 15 = .ok (.ireturn, 1) := by decide +kernel
def w_O_isPerson : List Cond := .code y_O_isPerson b_O_isPerson 1 (some .boolean) :: ([])
set_option maxHeartbeats 4000000 in
set_option maxRecDepth 100000 in
theorem c_O_isPerson (l : Launch) (x : Int32) : Met l y_O_isPerson w_O_isPerson ({ frames := 0, cells := 0, slots := 0, locals := 0 } : Room) (gP0 [.int x]) (vp_Si (fun r => r = bI (inR x 10))) 0 0 (fun _ => False) := by
  refine Met.ofW (cc := b_O_isPerson) (maxL := 1) (ret := (some .boolean)) (by decide) rfl ?_
  intro p e s m args below meth c s₁ B hml hv
  obtain rfl := hv
  have hx := B.exec
  have hb := B.bytes
  have hr := B.returns
  have hts := atoms_spec (ws := w_O_isPerson) B.pre
  have hown : s.vm.findClass R_O = some m.cls := findClass_of_methodNamed B.named
  have hlocks := B.notSynchronized
  have hl := lv_entry ([.int x]) (n := 1) (Nat.le_of_ble_eq_true rfl)
  rw [lg_entry_eq]
  generalize (lg_sl ([.int x]) ++ List.replicate (1 - (lg_sl ([.int x])).length) Slot.unset).toArray = ls at hl ⊢
  have hl : lv_has ls 1 [(0, .int x)] := hl
  refine lv_iload_n hx hb d_O_isPerson_0 rfl (lv_at hl 0 rfl) ?_
  refine lv_if_lt (tgt := 14) hx hb d_O_isPerson_1 (by decide) (fun h0 => ?_) (fun h0 => ?_)
  · refine lv_iconst (v := nI 0) hx hb d_O_isPerson_14 (by decide) ?_
    exact W.zret (v := nI 0) hx hb hr (nar_b (by first | exact Or.inl rfl | exact Or.inr rfl | exact bI_01)) (fun t ht hW => ⟨_, rfl, (bI_f (by first | exact inR_ge (by decide) h1 | exact inR_lt h0)).symm, ht⟩) t_nil d_O_isPerson_15
  · refine lv_iload_n hx hb d_O_isPerson_4 rfl (lv_at hl 0 rfl) ?_
    refine lv_bipush (v := nI 10) hx hb d_O_isPerson_5 (by decide +kernel) ?_
    refine lv_icmp_ge (tgt := 14) hx hb d_O_isPerson_7 (by decide) (fun h1 => ?_) (fun h1 => ?_)
    · refine lv_iconst (v := nI 0) hx hb d_O_isPerson_14 (by decide) ?_
      exact W.zret (v := nI 0) hx hb hr (nar_b (by first | exact Or.inl rfl | exact Or.inr rfl | exact bI_01)) (fun t ht hW => ⟨_, rfl, (bI_f (by first | exact inR_ge (by decide) h1 | exact inR_lt h0)).symm, ht⟩) t_nil d_O_isPerson_15
    · refine lv_iconst (v := nI 1) hx hb d_O_isPerson_10 (by decide) ?_
      refine lv_goto (tgt := 15) hx hb d_O_isPerson_11 (by decide) ?_
      exact W.zret (v := nI 1) hx hb hr (nar_b (by first | exact Or.inl rfl | exact Or.inr rfl | exact bI_01)) (fun t ht hW => ⟨_, rfl, (bI_t (by obtain ⟨j, hj, rfl⟩ := in_of (by decide) h0 h1; exact (inR_nI (by omega)).mpr hj)).symm, ht⟩) t_nil d_O_isPerson_15

abbrev b_O_isPart : ByteArray := prog_9_method_6_code
def y_O_isPart : MethodName := ⟨"PartShelvesModel", "isPart", "(I)Z"⟩
theorem d_O_isPart_0 : decode b_O_isPart 0 = .ok (.iload_n 1, 1) := by decide +kernel
theorem d_O_isPart_1 : decode b_O_isPart 1 = .ok (.ifCond .lt 15, 3) := by decide +kernel
theorem d_O_isPart_4 : decode b_O_isPart 4 = .ok (.iload_n 1, 1) := by decide +kernel
theorem d_O_isPart_5 : decode b_O_isPart 5 = .ok (.aload_n 0, 1) := by decide +kernel
theorem d_O_isPart_6 : decode b_O_isPart 6 = .ok (.getfield 81, 3) := by decide +kernel
theorem d_O_isPart_9 : decode b_O_isPart 9 = .ok (.if_icmp .ge 7, 3) := by decide +kernel
theorem d_O_isPart_12 : decode b_O_isPart 12 = .ok (.iconst 1, 1) := by decide +kernel
theorem d_O_isPart_13 : decode b_O_isPart 13 = .ok (.goto 4, 3) := by decide +kernel
theorem d_O_isPart_16 : decode b_O_isPart 16 = .ok (.iconst 0, 1) := by decide +kernel
theorem d_O_isPart_17 : decode b_O_isPart 17 = .ok (.ireturn, 1) := by decide +kernel
def w_O_isPart : List Cond := .code y_O_isPart b_O_isPart 2 (some .boolean) :: ([.fieldLink "PartShelvesModel" 81 "PartShelvesModel" "parts" "I"] ++ u_ws R_O F_O 36)
set_option maxHeartbeats 4000000 in
set_option maxRecDepth 100000 in
theorem c_O_isPart (l : Launch) (D : va_G) (kC : Nat → ClassId) (ad : Nat → Nat) (td : Nat) (rn : Nat) (pn : Nat) (an : Nat) (jn : Nat) (tn : Nat) (bm : Int32) (fw : Int64) (gp : Nat) (ga : Nat) (bp : Int32) (fc : Int64) (fj : Nat) (rA : Nat → Nat) (rC : Nat → Nat) (ft : Nat → Int32) (kd : Nat → Nat) (aG : Nat → Nat) (sR : Nat → Nat) (sT : Nat → Nat) (wh : Nat → Nat) (dY : Nat → Nat) (pd : Nat → Nat) (cN : Nat → Nat) (mN : Nat → Nat) (sv : Nat → Int32) (nd : Nat → Nat) (wr : Nat → Nat) (tl : Nat → Nat) (lt : Nat → Int32) (lT : Nat → Nat) (lD : Nat → Nat) (gv : Nat → Int32) (gn : Nat → Int64) (od : Nat → Nat) (br : Nat → Nat) (x : Int32) (hpn : pn ≤ 8) : Met l y_O_isPart w_O_isPart ({ frames := 0, cells := 0, slots := 0, locals := 0 } : Room) (gPr cls D (tyL kC) [.ref (ad 0), .int x] (fl [(wO kC ad td rn pn an jn tn bm fw gp ga bp fc fj rA rC ft kd aG sR sT wh dY pd cN mN sv nd wr tl lt lT lD gv gn od br)])) (vp_Si (fun r => r = bI (inR x pn))) 0 0 (fun _ => False) := by
  refine Met.ofW (cc := b_O_isPart) (maxL := 2) (ret := (some .boolean)) (by decide) rfl ?_
  intro p e s m args below meth c s₁ B hml hv
  obtain ⟨rfl, hP, hK⟩ := hv
  have hx := B.exec
  have hb := B.bytes
  have hr := B.returns
  have hts := atoms_spec (ws := w_O_isPart) B.pre
  have hown : s.vm.findClass R_O = some m.cls := findClass_of_methodNamed B.named
  have hlocks := B.notSynchronized
  have hl := lv_entry ([.ref (ad 0), .int x]) (n := 2) (Nat.le_of_ble_eq_true rfl)
  rw [lg_entry_eq]
  generalize (lg_sl ([.ref (ad 0), .int x]) ++ List.replicate (2 - (lg_sl ([.ref (ad 0), .int x])).length) Slot.unset).toArray = ls at hl ⊢
  have hl : lv_has ls 2 [(0, .ref (ad 0)), (1, .int x)] := hl
  refine lv_iload_n hx hb d_O_isPart_0 rfl (lv_at hl 1 rfl) ?_
  refine lv_if_lt (tgt := 16) hx hb d_O_isPart_1 (by decide) (fun h0 => ?_) (fun h0 => ?_)
  · refine lv_iconst (v := nI 0) hx hb d_O_isPart_16 (by decide) ?_
    exact W.zret (v := nI 0) hx hb hr (nar_b (by first | exact Or.inl rfl | exact Or.inr rfl | exact bI_01)) (fun t ht hW => ⟨_, rfl, (bI_f (by first | exact inR_ge (by omega) h1 | exact inR_lt h0)).symm, ht⟩) t_nil d_O_isPart_17
  · refine lv_iload_n hx hb d_O_isPart_4 rfl (lv_at hl 1 rfl) ?_
    refine lv_aload_n hx hb d_O_isPart_5 rfl (lv_at hl 0 rfl) ?_
    refine fv_get (ci := 7) (v := .int (nI pn)) (C := R_O) (T := F_O) (N := 36) hx hb hts (by decide +kernel) hown hK hP 0 0 rfl rfl rfl 5 (by decide) (hts (.fieldLink R_O 81 "PartShelvesModel" "parts" "I") (by decide +kernel)) (fun _ h9 => h9) rfl d_O_isPart_6 ?_
    refine lv_icmp_ge (tgt := 16) hx hb d_O_isPart_9 (by decide) (fun h1 => ?_) (fun h1 => ?_)
    · refine lv_iconst (v := nI 0) hx hb d_O_isPart_16 (by decide) ?_
      exact W.zret (v := nI 0) hx hb hr (nar_b (by first | exact Or.inl rfl | exact Or.inr rfl | exact bI_01)) (fun t ht hW => ⟨_, rfl, (bI_f (by first | exact inR_ge (by omega) h1 | exact inR_lt h0)).symm, ht⟩) t_nil d_O_isPart_17
    · refine lv_iconst (v := nI 1) hx hb d_O_isPart_12 (by decide) ?_
      refine lv_goto (tgt := 17) hx hb d_O_isPart_13 (by decide) ?_
      exact W.zret (v := nI 1) hx hb hr (nar_b (by first | exact Or.inl rfl | exact Or.inr rfl | exact bI_01)) (fun t ht hW => ⟨_, rfl, (bI_t (by obtain ⟨j, hj, rfl⟩ := in_of (by omega) h0 h1; exact (inR_nI (by omega)).mpr hj)).symm, ht⟩) t_nil d_O_isPart_17

abbrev b_O_isOpen : ByteArray := prog_9_method_7_code
def y_O_isOpen : MethodName := ⟨"PartShelvesModel", "isOpen", "(I)Z"⟩
theorem d_O_isOpen_0 : decode b_O_isOpen 0 = .ok (.iload_n 1, 1) := by decide +kernel
theorem d_O_isOpen_1 : decode b_O_isOpen 1 = .ok (.ifCond .lt 24, 3) := by decide +kernel
theorem d_O_isOpen_4 : decode b_O_isOpen 4 = .ok (.iload_n 1, 1) := by decide +kernel
theorem d_O_isOpen_5 : decode b_O_isOpen 5 = .ok (.aload_n 0, 1) := by decide +kernel
theorem d_O_isOpen_6 : decode b_O_isOpen 6 = .ok (.getfield 85, 3) := by decide +kernel
theorem d_O_isOpen_9 : decode b_O_isOpen 9 = .ok (.if_icmp .ge 16, 3) := by decide +kernel
theorem d_O_isOpen_12 : decode b_O_isOpen 12 = .ok (.aload_n 0, 1) := by decide +kernel
theorem d_O_isOpen_13 : decode b_O_isOpen 13 = .ok (.getfield 48, 3) := by decide +kernel
theorem d_O_isOpen_16 : decode b_O_isOpen 16 = .ok (.iload_n 1, 1) := by decide +kernel
theorem d_O_isOpen_17 : decode b_O_isOpen 17 = .ok (.baload, 1) := by decide +kernel
theorem d_O_isOpen_18 : decode b_O_isOpen 18 = .ok (.ifCond .ne 7, 3) := by decide +kernel
theorem d_O_isOpen_21 : decode b_O_isOpen 21 = .ok (.iconst 1, 1) := by decide +kernel
theorem d_O_isOpen_22 : decode b_O_isOpen 22 = .ok (.goto 4, 3) := by decide +kernel
theorem d_O_isOpen_25 : decode b_O_isOpen 25 = .ok (.iconst 0, 1) := by decide +kernel
theorem d_O_isOpen_26 : decode b_O_isOpen 26 = .ok (.ireturn, 1) := by decide +kernel
def w_O_isOpen : List Cond := .code y_O_isOpen b_O_isOpen 2 (some .boolean) :: ([.fieldLink "PartShelvesModel" 85 "PartShelvesModel" "asks" "I", .fieldLink "PartShelvesModel" 48 "PartShelvesModel" "served" "[Z"] ++ u_ws R_O F_O 36)
set_option maxHeartbeats 4000000 in
set_option maxRecDepth 100000 in
theorem c_O_isOpen (l : Launch) (D : va_G) (kC : Nat → ClassId) (ad : Nat → Nat) (td : Nat) (rn : Nat) (pn : Nat) (an : Nat) (jn : Nat) (tn : Nat) (bm : Int32) (fw : Int64) (gp : Nat) (ga : Nat) (bp : Int32) (fc : Int64) (fj : Nat) (rA : Nat → Nat) (rC : Nat → Nat) (ft : Nat → Int32) (kd : Nat → Nat) (aG : Nat → Nat) (sR : Nat → Nat) (sT : Nat → Nat) (wh : Nat → Nat) (dY : Nat → Nat) (pd : Nat → Nat) (cN : Nat → Nat) (mN : Nat → Nat) (sv : Nat → Int32) (nd : Nat → Nat) (wr : Nat → Nat) (tl : Nat → Nat) (lt : Nat → Int32) (lT : Nat → Nat) (lD : Nat → Nat) (gv : Nat → Int32) (gn : Nat → Int64) (od : Nat → Nat) (br : Nat → Nat) (x : Int32) (han : an ≤ 8) : Met l y_O_isOpen w_O_isOpen ({ frames := 0, cells := 0, slots := 0, locals := 0 } : Room) (gPr cls D (tyL kC) [.ref (ad 0), .int x] (fl [(wO kC ad td rn pn an jn tn bm fw gp ga bp fc fj rA rC ft kd aG sR sT wh dY pd cN mN sv nd wr tl lt lT lD gv gn od br)])) (vp_Si (fun r => r = bI (opn sv an x))) 0 0 (fun _ => False) := by
  refine Met.ofW (cc := b_O_isOpen) (maxL := 2) (ret := (some .boolean)) (by decide) rfl ?_
  intro p e s m args below meth c s₁ B hml hv
  obtain ⟨rfl, hP, hK⟩ := hv
  have hx := B.exec
  have hb := B.bytes
  have hr := B.returns
  have hts := atoms_spec (ws := w_O_isOpen) B.pre
  have hown : s.vm.findClass R_O = some m.cls := findClass_of_methodNamed B.named
  have hlocks := B.notSynchronized
  have hl := lv_entry ([.ref (ad 0), .int x]) (n := 2) (Nat.le_of_ble_eq_true rfl)
  rw [lg_entry_eq]
  generalize (lg_sl ([.ref (ad 0), .int x]) ++ List.replicate (2 - (lg_sl ([.ref (ad 0), .int x])).length) Slot.unset).toArray = ls at hl ⊢
  have hl : lv_has ls 2 [(0, .ref (ad 0)), (1, .int x)] := hl
  refine lv_iload_n hx hb d_O_isOpen_0 rfl (lv_at hl 1 rfl) ?_
  refine lv_if_lt (tgt := 25) hx hb d_O_isOpen_1 (by decide) (fun h0 => ?_) (fun h0 => ?_)
  · refine lv_iconst (v := nI 0) hx hb d_O_isOpen_25 (by decide) ?_
    exact W.zret (v := nI 0) hx hb hr (nar_b (by first | exact Or.inl rfl | exact Or.inr rfl | exact bI_01)) (fun t ht hW => ⟨_, rfl, (bI_f (fun q => by first | exact h2 ((opn_nI (by omega)).mp q).2 | exact inR_ge (by omega) h1 q.1 | exact inR_lt h0 q.1)).symm, ht⟩) t_nil d_O_isOpen_26
  · refine lv_iload_n hx hb d_O_isOpen_4 rfl (lv_at hl 1 rfl) ?_
    refine lv_aload_n hx hb d_O_isOpen_5 rfl (lv_at hl 0 rfl) ?_
    refine fv_get (ci := 7) (v := .int (nI an)) (C := R_O) (T := F_O) (N := 36) hx hb hts (by decide +kernel) hown hK hP 0 0 rfl rfl rfl 12 (by decide) (hts (.fieldLink R_O 85 "PartShelvesModel" "asks" "I") (by decide +kernel)) (fun _ h9 => h9) rfl d_O_isOpen_6 ?_
    refine lv_icmp_ge (tgt := 25) hx hb d_O_isOpen_9 (by decide) (fun h1 => ?_) (fun h1 => ?_)
    · refine lv_iconst (v := nI 0) hx hb d_O_isOpen_25 (by decide) ?_
      exact W.zret (v := nI 0) hx hb hr (nar_b (by first | exact Or.inl rfl | exact Or.inr rfl | exact bI_01)) (fun t ht hW => ⟨_, rfl, (bI_f (fun q => by first | exact h2 ((opn_nI (by omega)).mp q).2 | exact inR_ge (by omega) h1 q.1 | exact inR_lt h0 q.1)).symm, ht⟩) t_nil d_O_isOpen_26
    · obtain ⟨j, hj, rfl⟩ := in_of (by omega) h0 h1
      refine lv_aload_n hx hb d_O_isOpen_12 rfl (lv_at hl 0 rfl) ?_
      refine fv_get (ci := 7) (v := .ref (ad 13)) (C := R_O) (T := F_O) (N := 36) hx hb hts (by decide +kernel) hown hK hP 0 0 rfl rfl rfl 16 (by decide) (hts (.fieldLink R_O 48 "PartShelvesModel" "served" "[Z") (by decide +kernel)) (fun _ h9 => h9) rfl d_O_isOpen_13 ?_
      refine lv_iload_n hx hb d_O_isOpen_16 rfl (lv_at hl 1 rfl) ?_
      refine fa_zald hx hb hK hP 0 13 2 rfl rfl rfl (by omega) (by decide) d_O_isOpen_17 ?_
      refine lv_if_ne (tgt := 25) hx hb d_O_isOpen_18 (by decide) (fun h2 => ?_) (fun h2 => ?_)
      · refine lv_iconst (v := nI 0) hx hb d_O_isOpen_25 (by decide) ?_
        exact W.zret (v := nI 0) hx hb hr (nar_b (by first | exact Or.inl rfl | exact Or.inr rfl | exact bI_01)) (fun t ht hW => ⟨_, rfl, (bI_f (fun q => by first | exact h2 ((opn_nI (by omega)).mp q).2 | exact inR_ge (by omega) h1 q.1 | exact inR_lt h0 q.1)).symm, ht⟩) t_nil d_O_isOpen_26
      · refine lv_iconst (v := nI 1) hx hb d_O_isOpen_21 (by decide) ?_
        refine lv_goto (tgt := 26) hx hb d_O_isOpen_22 (by decide) ?_
        exact W.zret (v := nI 1) hx hb hr (nar_b (by first | exact Or.inl rfl | exact Or.inr rfl | exact bI_01)) (fun t ht hW => ⟨_, rfl, (bI_t ((opn_nI (by omega)).mpr ⟨hj, h2⟩)).symm, ht⟩) t_nil d_O_isOpen_26

abbrev b_O_stateOf : ByteArray := prog_9_method_14_code
def y_O_stateOf : MethodName := ⟨"PartShelvesModel", "stateOf", "(I)I"⟩
theorem d_O_stateOf_0 : decode b_O_stateOf 0 = .ok (.aload_n 0, 1) := by decide +kernel
theorem d_O_stateOf_1 : decode b_O_stateOf 1 = .ok (.getfield 30, 3) := by decide +kernel
theorem d_O_stateOf_4 : decode b_O_stateOf 4 = .ok (.iload_n 1, 1) := by decide +kernel
theorem d_O_stateOf_5 : decode b_O_stateOf 5 = .ok (.iaload, 1) := by decide +kernel
theorem d_O_stateOf_6 : decode b_O_stateOf 6 = .ok (.iconst 1, 1) := by decide +kernel
theorem d_O_stateOf_7 : decode b_O_stateOf 7 = .ok (.if_icmp .ne 20, 3) := by decide +kernel
theorem d_O_stateOf_10 : decode b_O_stateOf 10 = .ok (.aload_n 0, 1) := by decide +kernel
theorem d_O_stateOf_11 : decode b_O_stateOf 11 = .ok (.getfield 36, 3) := by decide +kernel
theorem d_O_stateOf_14 : decode b_O_stateOf 14 = .ok (.iload_n 1, 1) := by decide +kernel
theorem d_O_stateOf_15 : decode b_O_stateOf 15 = .ok (.iaload, 1) := by decide +kernel
theorem d_O_stateOf_16 : decode b_O_stateOf 16 = .ok (.aload_n 0, 1) := by decide +kernel
theorem d_O_stateOf_17 : decode b_O_stateOf 17 = .ok (.getfield 88, 3) := by decide +kernel
theorem d_O_stateOf_20 : decode b_O_stateOf 20 = .ok (.if_icmp .ge 7, 3) := by decide +kernel
theorem d_O_stateOf_23 : decode b_O_stateOf 23 = .ok (.iconst 0, 1) := by decide +kernel
theorem d_O_stateOf_24 : decode b_O_stateOf 24 = .ok (.goto 9, 3) := by decide +kernel
theorem d_O_stateOf_27 : decode b_O_stateOf 27 = .ok (.aload_n 0, 1) := by decide +kernel
theorem d_O_stateOf_28 : decode b_O_stateOf 28 = .ok (.getfield 30, 3) := by decide +kernel
theorem d_O_stateOf_31 : decode b_O_stateOf 31 = .ok (.iload_n 1, 1) := by decide +kernel
theorem d_O_stateOf_32 : decode b_O_stateOf 32 = .ok (.iaload, 1) := by decide +kernel
theorem d_O_stateOf_33 : decode b_O_stateOf 33 = .ok (.ireturn, 1) := by decide +kernel
def w_O_stateOf : List Cond := .code y_O_stateOf b_O_stateOf 2 (some .int) :: ([.fieldLink "PartShelvesModel" 30 "PartShelvesModel" "states" "[I", .fieldLink "PartShelvesModel" 36 "PartShelvesModel" "days" "[I", .fieldLink "PartShelvesModel" 88 "PartShelvesModel" "today" "I"] ++ u_ws R_O F_O 36)
set_option maxHeartbeats 4000000 in
set_option maxRecDepth 100000 in
theorem c_O_stOf (l : Launch) (D : va_G) (kC : Nat → ClassId) (ad : Nat → Nat) (td : Nat) (rn : Nat) (pn : Nat) (an : Nat) (jn : Nat) (tn : Nat) (bm : Int32) (fw : Int64) (gp : Nat) (ga : Nat) (bp : Int32) (fc : Int64) (fj : Nat) (rA : Nat → Nat) (rC : Nat → Nat) (ft : Nat → Int32) (kd : Nat → Nat) (aG : Nat → Nat) (sR : Nat → Nat) (sT : Nat → Nat) (wh : Nat → Nat) (dY : Nat → Nat) (pd : Nat → Nat) (cN : Nat → Nat) (mN : Nat → Nat) (sv : Nat → Int32) (nd : Nat → Nat) (wr : Nat → Nat) (tl : Nat → Nat) (lt : Nat → Int32) (lT : Nat → Nat) (lD : Nat → Nat) (gv : Nat → Int32) (gn : Nat → Int64) (od : Nat → Nat) (br : Nat → Nat) (k : Nat) (hk : k < 8) (hsT : ∀ j, sT j ≤ 3) (hdY : ∀ j, dY j ≤ 100000) (htd : td ≤ 100000) : Met l y_O_stateOf w_O_stateOf ({ frames := 0, cells := 0, slots := 0, locals := 0 } : Room) (gPr cls D (tyL kC) [.ref (ad 0), .int (nI k)] (fl [(wO kC ad td rn pn an jn tn bm fw gp ga bp fc fj rA rC ft kd aG sR sT wh dY pd cN mN sv nd wr tl lt lT lD gv gn od br)])) (vp_Si (fun r => r = nI (stOn (sT k) (dY k) td))) 0 0 (fun _ => False) := by
  refine Met.ofW (cc := b_O_stateOf) (maxL := 2) (ret := (some .int)) (by decide) rfl ?_
  intro p e s m args below meth c s₁ B hml hv
  obtain ⟨rfl, hP, hK⟩ := hv
  have hx := B.exec
  have hb := B.bytes
  have hr := B.returns
  have hts := atoms_spec (ws := w_O_stateOf) B.pre
  have hown : s.vm.findClass R_O = some m.cls := findClass_of_methodNamed B.named
  have hlocks := B.notSynchronized
  have hl := lv_entry ([.ref (ad 0), .int (nI k)]) (n := 2) (Nat.le_of_ble_eq_true rfl)
  rw [lg_entry_eq]
  generalize (lg_sl ([.ref (ad 0), .int (nI k)]) ++ List.replicate (2 - (lg_sl ([.ref (ad 0), .int (nI k)])).length) Slot.unset).toArray = ls at hl ⊢
  have hl : lv_has ls 2 [(0, .ref (ad 0)), (1, .int (nI k))] := hl
  refine lv_aload_n hx hb d_O_stateOf_0 rfl (lv_at hl 0 rfl) ?_
  refine fv_get (ci := 7) (v := .ref (ad 7)) (C := R_O) (T := F_O) (N := 36) hx hb hts (by decide +kernel) hown hK hP 0 0 rfl rfl rfl 9 (by decide) (hts (.fieldLink R_O 30 "PartShelvesModel" "states" "[I") (by decide +kernel)) (fun _ h9 => h9) rfl d_O_stateOf_1 ?_
  refine lv_iload_n hx hb d_O_stateOf_4 rfl (lv_at hl 1 rfl) ?_
  refine fa_ialdN hx hb hK hP 0 7 0 rfl rfl rfl (by omega) (by decide) d_O_stateOf_5 ?_
  refine lv_iconst (v := nI 1) hx hb d_O_stateOf_6 (by decide) ?_
  refine nv_icmp_ne (tgt := 27) hx hb d_O_stateOf_7 (by decide) (by have := hsT k; omega) (by omega) (fun h1 => ?_) (fun h1 => ?_)
  · refine lv_aload_n hx hb d_O_stateOf_27 rfl (lv_at hl 0 rfl) ?_
    refine fv_get (ci := 7) (v := .ref (ad 7)) (C := R_O) (T := F_O) (N := 36) hx hb hts (by decide +kernel) hown hK hP 0 0 rfl rfl rfl 9 (by decide) (hts (.fieldLink R_O 30 "PartShelvesModel" "states" "[I") (by decide +kernel)) (fun _ h9 => h9) rfl d_O_stateOf_28 ?_
    refine lv_iload_n hx hb d_O_stateOf_31 rfl (lv_at hl 1 rfl) ?_
    refine fa_ialdN hx hb hK hP 0 7 0 rfl rfl rfl (by omega) (by decide) d_O_stateOf_32 ?_
    exact W.iret (v := nI (sT k)) hx hb hr (fun t ht hW => ⟨_, rfl, congrArg nI (by first | exact (if_pos ⟨h1, h2⟩).symm | exact (if_neg (fun q => h1 q.1)).symm | exact (if_neg (fun q => by have := q.2; omega)).symm), ht⟩) t_nil d_O_stateOf_33
  · refine lv_aload_n hx hb d_O_stateOf_10 rfl (lv_at hl 0 rfl) ?_
    refine fv_get (ci := 7) (v := .ref (ad 9)) (C := R_O) (T := F_O) (N := 36) hx hb hts (by decide +kernel) hown hK hP 0 0 rfl rfl rfl 11 (by decide) (hts (.fieldLink R_O 36 "PartShelvesModel" "days" "[I") (by decide +kernel)) (fun _ h9 => h9) rfl d_O_stateOf_11 ?_
    refine lv_iload_n hx hb d_O_stateOf_14 rfl (lv_at hl 1 rfl) ?_
    refine fa_ialdN hx hb hK hP 0 9 0 rfl rfl rfl (by omega) (by decide) d_O_stateOf_15 ?_
    refine lv_aload_n hx hb d_O_stateOf_16 rfl (lv_at hl 0 rfl) ?_
    refine fv_get (ci := 7) (v := .int (nI td)) (C := R_O) (T := F_O) (N := 36) hx hb hts (by decide +kernel) hown hK hP 0 0 rfl rfl rfl 0 (by decide) (hts (.fieldLink R_O 88 "PartShelvesModel" "today" "I") (by decide +kernel)) (fun _ h9 => h9) rfl d_O_stateOf_17 ?_
    refine nv_icmp_ge (tgt := 27) hx hb d_O_stateOf_20 (by decide) (by have := hdY k; omega) (by omega) (fun h2 => ?_) (fun h2 => ?_)
    · refine lv_aload_n hx hb d_O_stateOf_27 rfl (lv_at hl 0 rfl) ?_
      refine fv_get (ci := 7) (v := .ref (ad 7)) (C := R_O) (T := F_O) (N := 36) hx hb hts (by decide +kernel) hown hK hP 0 0 rfl rfl rfl 9 (by decide) (hts (.fieldLink R_O 30 "PartShelvesModel" "states" "[I") (by decide +kernel)) (fun _ h9 => h9) rfl d_O_stateOf_28 ?_
      refine lv_iload_n hx hb d_O_stateOf_31 rfl (lv_at hl 1 rfl) ?_
      refine fa_ialdN hx hb hK hP 0 7 0 rfl rfl rfl (by omega) (by decide) d_O_stateOf_32 ?_
      exact W.iret (v := nI (sT k)) hx hb hr (fun t ht hW => ⟨_, rfl, congrArg nI (by first | exact (if_pos ⟨h1, h2⟩).symm | exact (if_neg (fun q => h1 q.1)).symm | exact (if_neg (fun q => by have := q.2; omega)).symm), ht⟩) t_nil d_O_stateOf_33
    · refine lv_iconst (v := nI 0) hx hb d_O_stateOf_23 (by decide) ?_
      refine lv_goto (tgt := 33) hx hb d_O_stateOf_24 (by decide) ?_
      exact W.iret (v := nI 0) hx hb hr (fun t ht hW => ⟨_, rfl, congrArg nI (by first | exact (if_pos ⟨h1, h2⟩).symm | exact (if_neg (fun q => h1 q.1)).symm | exact (if_neg (fun q => by have := q.2; omega)).symm), ht⟩) t_nil d_O_stateOf_33

abbrev b_O_priceOf : ByteArray := prog_9_method_12_code
def y_O_priceOf : MethodName := ⟨"PartShelvesModel", "priceOf", "(I)J"⟩
theorem d_O_priceOf_0 : decode b_O_priceOf 0 = .ok (.lconst 0, 1) := by decide +kernel
theorem d_O_priceOf_1 : decode b_O_priceOf 1 = .ok (.lstore_n 2, 1) := by decide +kernel
theorem d_O_priceOf_2 : decode b_O_priceOf 2 = .ok (.iconst 0, 1) := by decide +kernel
theorem d_O_priceOf_3 : decode b_O_priceOf 3 = .ok (.istore 4, 2) := by decide +kernel
theorem d_O_priceOf_5 : decode b_O_priceOf 5 = .ok (.iload 4, 2) := by decide +kernel
theorem d_O_priceOf_7 : decode b_O_priceOf 7 = .ok (.aload_n 0, 1) := by decide +kernel
theorem d_O_priceOf_8 : decode b_O_priceOf 8 = .ok (.getfield 97, 3) := by decide +kernel
theorem d_O_priceOf_11 : decode b_O_priceOf 11 = .ok (.if_icmp .ge 37, 3) := by decide +kernel
theorem d_O_priceOf_14 : decode b_O_priceOf 14 = .ok (.aload_n 0, 1) := by decide +kernel
theorem d_O_priceOf_15 : decode b_O_priceOf 15 = .ok (.getfield 7, 3) := by decide +kernel
theorem d_O_priceOf_18 : decode b_O_priceOf 18 = .ok (.iload 4, 2) := by decide +kernel
theorem d_O_priceOf_20 : decode b_O_priceOf 20 = .ok (.iaload, 1) := by decide +kernel
theorem d_O_priceOf_21 : decode b_O_priceOf 21 = .ok (.aload_n 0, 1) := by decide +kernel
theorem d_O_priceOf_22 : decode b_O_priceOf 22 = .ok (.getfield 24, 3) := by decide +kernel
theorem d_O_priceOf_25 : decode b_O_priceOf 25 = .ok (.iload_n 1, 1) := by decide +kernel
theorem d_O_priceOf_26 : decode b_O_priceOf 26 = .ok (.iaload, 1) := by decide +kernel
theorem d_O_priceOf_27 : decode b_O_priceOf 27 = .ok (.if_icmp .gt 13, 3) := by decide +kernel
theorem d_O_priceOf_30 : decode b_O_priceOf 30 = .ok (.aload_n 0, 1) := by decide +kernel
theorem d_O_priceOf_31 : decode b_O_priceOf 31 = .ok (.getfield 13, 3) := by decide +kernel
theorem d_O_priceOf_34 : decode b_O_priceOf 34 = .ok (.iload 4, 2) := by decide +kernel
theorem d_O_priceOf_36 : decode b_O_priceOf 36 = .ok (.laload, 1) := by decide +kernel
theorem d_O_priceOf_37 : decode b_O_priceOf 37 = .ok (.goto 4, 3) := by decide +kernel
theorem d_O_priceOf_40 : decode b_O_priceOf 40 = .ok (.lload_n 2, 1) := by decide +kernel
theorem d_O_priceOf_41 : decode b_O_priceOf 41 = .ok (.lstore_n 2, 1) := by decide +kernel
theorem d_O_priceOf_42 : decode b_O_priceOf 42 = .ok (.iinc 4 1, 3) := by decide +kernel
theorem d_O_priceOf_45 : decode b_O_priceOf 45 = .ok (.goto (-40), 3) := by decide +kernel
theorem d_O_priceOf_48 : decode b_O_priceOf 48 = .ok (.lload_n 2, 1) := by decide +kernel
theorem d_O_priceOf_49 : decode b_O_priceOf 49 = .ok (.lreturn, 1) := by decide +kernel
def w_O_priceOf : List Cond := .code y_O_priceOf b_O_priceOf 5 (some .long) :: ([.fieldLink "PartShelvesModel" 97 "PartShelvesModel" "rows" "I", .fieldLink "PartShelvesModel" 7 "PartShelvesModel" "rowAges" "[I", .fieldLink "PartShelvesModel" 24 "PartShelvesModel" "ages" "[I", .fieldLink "PartShelvesModel" 13 "PartShelvesModel" "rowCents" "[J"] ++ u_ws R_O F_O 36)
set_option maxHeartbeats 4000000 in
set_option maxRecDepth 100000 in
theorem c_O_prOf (l : Launch) (D : va_G) (kC : Nat → ClassId) (ad : Nat → Nat) (td : Nat) (rn : Nat) (pn : Nat) (an : Nat) (jn : Nat) (tn : Nat) (bm : Int32) (fw : Int64) (gp : Nat) (ga : Nat) (bp : Int32) (fc : Int64) (fj : Nat) (rA : Nat → Nat) (rC : Nat → Nat) (ft : Nat → Int32) (kd : Nat → Nat) (aG : Nat → Nat) (sR : Nat → Nat) (sT : Nat → Nat) (wh : Nat → Nat) (dY : Nat → Nat) (pd : Nat → Nat) (cN : Nat → Nat) (mN : Nat → Nat) (sv : Nat → Int32) (nd : Nat → Nat) (wr : Nat → Nat) (tl : Nat → Nat) (lt : Nat → Int32) (lT : Nat → Nat) (lD : Nat → Nat) (gv : Nat → Int32) (gn : Nat → Int64) (od : Nat → Nat) (br : Nat → Nat) (k : Nat) (hk : k < 8) (hrn : rn ≤ 6) (hrA : ∀ j, rA j ≤ 1000) (haG : ∀ j, aG j ≤ 1000) : Met l y_O_priceOf w_O_priceOf ({ frames := 0, cells := 0, slots := 0, locals := 0 } : Room) (gPr cls D (tyL kC) [.ref (ad 0), .int (nI k)] (fl [(wO kC ad td rn pn an jn tn bm fw gp ga bp fc fj rA rC ft kd aG sR sT wh dY pd cN mN sv nd wr tl lt lT lD gv gn od br)])) (vp_Sl (fun r => r = lN (prM rA rC (aG k) rn))) 0 0 (fun _ => False) := by
  refine Met.ofW (cc := b_O_priceOf) (maxL := 5) (ret := (some .long)) (by decide) rfl ?_
  intro p e s m args below meth c s₁ B hml hv
  obtain ⟨rfl, hP, hK⟩ := hv
  have hx := B.exec
  have hb := B.bytes
  have hr := B.returns
  have hts := atoms_spec (ws := w_O_priceOf) B.pre
  have hown : s.vm.findClass R_O = some m.cls := findClass_of_methodNamed B.named
  have hlocks := B.notSynchronized
  have hl := lv_entry ([.ref (ad 0), .int (nI k)]) (n := 5) (Nat.le_of_ble_eq_true rfl)
  rw [lg_entry_eq]
  generalize (lg_sl ([.ref (ad 0), .int (nI k)]) ++ List.replicate (5 - (lg_sl ([.ref (ad 0), .int (nI k)])).length) Slot.unset).toArray = ls at hl ⊢
  have hl : lv_has ls 5 [(0, .ref (ad 0)), (1, .int (nI k))] := hl
  refine lv_lconst (v := lN 0) hx hb d_O_priceOf_0 (by decide) ?_
  refine lv_lstore_n (lv' := [(2, .long (lN 0)), (0, .ref (ad 0)), (1, .int (nI k))]) hx hb d_O_priceOf_1 rfl hl (by decide) rfl (fun ls hl => ?_)
  refine lv_iconst (v := nI 0) hx hb d_O_priceOf_2 (by decide) ?_
  refine lv_istore (lv' := [(4, .int (nI 0)), (2, .long (lN 0)), (0, .ref (ad 0)), (1, .int (nI k))]) hx hb d_O_priceOf_3 hl (by decide) rfl (fun ls hl => ?_)
  have L5 : ∀ (n5 : Nat) (i : Nat), rn - i < n5 → i ≤ rn → ∀ (ls : Array Slot), lv_has ls 5 [(0, .ref (ad 0)), (1, .int (nI k)), (2, .long (lN (prM rA rC (aG k) i))), (4, .int (nI i))] → W p l e (headSpec w_O_priceOf ({ frames := 0, cells := 0, slots := 0, locals := 0 } : Room)).room s m ([.ref (ad 0), .int (nI k)] : List Value).toArray below meth c s.heap [] 0 0 (MQ below (vp_Sl (fun r => r = lN (prM rA rC (aG k) rn))) ([.ref (ad 0), .int (nI k)] : List Value).toArray s 0 0 (fun _ => False)) (F0 m 5 ls []) := by
    intro n5
    induction n5 with
    | zero =>
      intro i hm
      exact absurd hm (Nat.not_lt_zero _)
    | succ n5 ih5 =>
      intro i hm hir ls hl
      refine lv_iload hx hb d_O_priceOf_5 (lv_at hl 3 rfl) ?_
      refine lv_aload_n hx hb d_O_priceOf_7 rfl (lv_at hl 0 rfl) ?_
      refine fv_get (ci := 7) (v := .int (nI rn)) (C := R_O) (T := F_O) (N := 36) hx hb hts (by decide +kernel) hown hK hP 0 0 rfl rfl rfl 1 (by decide) (hts (.fieldLink R_O 97 "PartShelvesModel" "rows" "I") (by decide +kernel)) (fun _ h9 => h9) rfl d_O_priceOf_8 ?_
      refine nv_icmp_ge (tgt := 48) hx hb d_O_priceOf_11 (by decide) (by omega) (by omega) (fun hi => ?_) (fun hi => ?_)
      · obtain rfl : rn = i := by omega
        refine lv_lload_n hx hb d_O_priceOf_48 rfl (lv_at hl 2 rfl) ?_
        exact W.lret (v := lN (prM rA rC (aG k) rn)) hx hb hr (fun t ht hW => ⟨_, rfl, rfl, ht⟩) t_nil d_O_priceOf_49
      · refine lv_aload_n hx hb d_O_priceOf_14 rfl (lv_at hl 0 rfl) ?_
        refine fv_get (ci := 7) (v := .ref (ad 1)) (C := R_O) (T := F_O) (N := 36) hx hb hts (by decide +kernel) hown hK hP 0 0 rfl rfl rfl 2 (by decide) (hts (.fieldLink R_O 7 "PartShelvesModel" "rowAges" "[I") (by decide +kernel)) (fun _ h9 => h9) rfl d_O_priceOf_15 ?_
        refine lv_iload hx hb d_O_priceOf_18 (lv_at hl 3 rfl) ?_
        refine fa_ialdN hx hb hK hP 0 1 0 rfl rfl rfl (by omega) (by decide) d_O_priceOf_20 ?_
        refine lv_aload_n hx hb d_O_priceOf_21 rfl (lv_at hl 0 rfl) ?_
        refine fv_get (ci := 7) (v := .ref (ad 5)) (C := R_O) (T := F_O) (N := 36) hx hb hts (by decide +kernel) hown hK hP 0 0 rfl rfl rfl 7 (by decide) (hts (.fieldLink R_O 24 "PartShelvesModel" "ages" "[I") (by decide +kernel)) (fun _ h9 => h9) rfl d_O_priceOf_22 ?_
        refine lv_iload_n hx hb d_O_priceOf_25 rfl (lv_at hl 1 rfl) ?_
        refine fa_ialdN hx hb hK hP 0 5 0 rfl rfl rfl (by omega) (by decide) d_O_priceOf_26 ?_
        refine nv_icmp_gt (tgt := 40) hx hb d_O_priceOf_27 (by decide) (by have := hrA i; omega) (by have := haG k; omega) (fun hc => ?_) (fun hc => ?_)
        · refine lv_lload_n hx hb d_O_priceOf_40 rfl (lv_at hl 2 rfl) ?_
          refine lv_lstore_n (lv' := [(2, .long (lN (prM rA rC (aG k) i))), (0, .ref (ad 0)), (1, .int (nI k)), (4, .int (nI i))]) hx hb d_O_priceOf_41 rfl hl (by decide) rfl (fun ls hl => ?_)
          have el1 : lN (prM rA rC (aG k) i) = lN (prM rA rC (aG k) (i + 1)) := congrArg lN ((if_neg (by omega)).symm)
          have hl : lv_has ls 5 [(2, .long (lN (prM rA rC (aG k) (i + 1)))), (0, .ref (ad 0)), (1, .int (nI k)), (4, .int (nI i))] := by rw [← el1]; exact hl
          refine lv_iinc (v := nI (i + 1)) (lv' := [(4, .int (nI (i + 1))), (2, .long (lN (prM rA rC (aG k) (i + 1)))), (0, .ref (ad 0)), (1, .int (nI k))]) hx hb d_O_priceOf_42 hl (k := 3) rfl (nI_1 i) (by decide) rfl (fun ls hl => ?_)
          refine lv_goto (tgt := 5) hx hb d_O_priceOf_45 (by decide) ?_
          exact ih5 (i + 1) (by omega) (hi) ls (lv_sub hl [2, 3, 1, 0] rfl)
        · refine lv_aload_n hx hb d_O_priceOf_30 rfl (lv_at hl 0 rfl) ?_
          refine fv_get (ci := 7) (v := .ref (ad 2)) (C := R_O) (T := F_O) (N := 36) hx hb hts (by decide +kernel) hown hK hP 0 0 rfl rfl rfl 3 (by decide) (hts (.fieldLink R_O 13 "PartShelvesModel" "rowCents" "[J") (by decide +kernel)) (fun _ h9 => h9) rfl d_O_priceOf_31 ?_
          refine lv_iload hx hb d_O_priceOf_34 (lv_at hl 3 rfl) ?_
          refine fa_laldN hx hb hK hP 0 2 1 rfl rfl rfl (by omega) (by decide) d_O_priceOf_36 ?_
          refine lv_goto (tgt := 41) hx hb d_O_priceOf_37 (by decide) ?_
          refine lv_lstore_n (lv' := [(2, .long (lN (rC i))), (0, .ref (ad 0)), (1, .int (nI k)), (4, .int (nI i))]) hx hb d_O_priceOf_41 rfl hl (by decide) rfl (fun ls hl => ?_)
          have el2 : lN (rC i) = lN (prM rA rC (aG k) (i + 1)) := congrArg lN ((if_pos hc).symm)
          have hl : lv_has ls 5 [(2, .long (lN (prM rA rC (aG k) (i + 1)))), (0, .ref (ad 0)), (1, .int (nI k)), (4, .int (nI i))] := by rw [← el2]; exact hl
          refine lv_iinc (v := nI (i + 1)) (lv' := [(4, .int (nI (i + 1))), (2, .long (lN (prM rA rC (aG k) (i + 1)))), (0, .ref (ad 0)), (1, .int (nI k))]) hx hb d_O_priceOf_42 hl (k := 3) rfl (nI_1 i) (by decide) rfl (fun ls hl => ?_)
          refine lv_goto (tgt := 5) hx hb d_O_priceOf_45 (by decide) ?_
          exact ih5 (i + 1) (by omega) (hi) ls (lv_sub hl [2, 3, 1, 0] rfl)
  exact L5 _ 0 (Nat.lt_succ_self _) (Nat.zero_le _) ls (lv_sub hl [2, 3, 1, 0] rfl)
end
section
abbrev b_O_price : ByteArray := prog_9_method_13_code
def y_O_price : MethodName := ⟨"PartShelvesModel", "price", "(I)J"⟩
theorem d_O_price_0 : decode b_O_price 0 = .ok (.aload_n 0, 1) := by decide +kernel
theorem d_O_price_1 : decode b_O_price 1 = .ok (.iload_n 1, 1) := by decide +kernel
theorem d_O_price_2 : decode b_O_price 2 = .ok (.invokevirtual 108, 3) := by decide +kernel
theorem d_O_price_5 : decode b_O_price 5 = .ok (.ifCond .eq 11, 3) := by decide +kernel
theorem d_O_price_8 : decode b_O_price 8 = .ok (.aload_n 0, 1) := by decide +kernel
theorem d_O_price_9 : decode b_O_price 9 = .ok (.iload_n 1, 1) := by decide +kernel
theorem d_O_price_10 : decode b_O_price 10 = .ok (.invokevirtual 111, 3) := by decide +kernel
theorem d_O_price_13 : decode b_O_price 13 = .ok (.goto 6, 3) := by decide +kernel
theorem d_O_price_16 : decode b_O_price 16 = .ok (.ldc2_w 115, 3) := by decide +kernel
theorem d_O_price_19 : decode b_O_price 19 = .ok (.lreturn, 1) := by decide +kernel
def w_O_price : List Cond := .code y_O_price b_O_price 2 (some .long) :: ([.methodLink "PartShelvesModel" 108 ⟨"PartShelvesModel", "isPart", "(I)Z"⟩, .instanceMethod ⟨"PartShelvesModel", "isPart", "(I)Z"⟩, .selects "PartShelvesModel" ⟨"PartShelvesModel", "isPart", "(I)Z"⟩ ⟨"PartShelvesModel", "isPart", "(I)Z"⟩, .initialized "PartShelvesModel", .code ⟨"PartShelvesModel", "isPart", "(I)Z"⟩ prog_9_method_6_code 2 (some .boolean), .fieldLink "PartShelvesModel" 81 "PartShelvesModel" "parts" "I", .methodLink "PartShelvesModel" 111 ⟨"PartShelvesModel", "priceOf", "(I)J"⟩, .instanceMethod ⟨"PartShelvesModel", "priceOf", "(I)J"⟩, .selects "PartShelvesModel" ⟨"PartShelvesModel", "priceOf", "(I)J"⟩ ⟨"PartShelvesModel", "priceOf", "(I)J"⟩, .code ⟨"PartShelvesModel", "priceOf", "(I)J"⟩ prog_9_method_12_code 5 (some .long), .fieldLink "PartShelvesModel" 97 "PartShelvesModel" "rows" "I", .fieldLink "PartShelvesModel" 7 "PartShelvesModel" "rowAges" "[I", .fieldLink "PartShelvesModel" 24 "PartShelvesModel" "ages" "[I", .fieldLink "PartShelvesModel" 13 "PartShelvesModel" "rowCents" "[J", .constantLong "PartShelvesModel" 115 (-1)] ++ u_ws R_O F_O 36)
set_option maxRecDepth 20000 in
theorem g_O_price_isPart : GoodIn w_O_price (wsV R_O 108 R_O y_O_isPart w_O_isPart) := goodIn_p _ [5] rfl (by decide +kernel)
set_option maxRecDepth 20000 in
theorem g_O_price_priceOf : GoodIn w_O_price (wsV R_O 111 R_O y_O_priceOf w_O_priceOf) := goodIn_p _ [10] rfl (by decide +kernel)
set_option maxHeartbeats 4000000 in
set_option maxRecDepth 100000 in
theorem c_O_price (l : Launch) (D : va_G) (kC : Nat → ClassId) (ad : Nat → Nat) (td : Nat) (rn : Nat) (pn : Nat) (an : Nat) (jn : Nat) (tn : Nat) (bm : Int32) (fw : Int64) (gp : Nat) (ga : Nat) (bp : Int32) (fc : Int64) (fj : Nat) (rA : Nat → Nat) (rC : Nat → Nat) (ft : Nat → Int32) (kd : Nat → Nat) (aG : Nat → Nat) (sR : Nat → Nat) (sT : Nat → Nat) (wh : Nat → Nat) (dY : Nat → Nat) (pd : Nat → Nat) (cN : Nat → Nat) (mN : Nat → Nat) (sv : Nat → Int32) (nd : Nat → Nat) (wr : Nat → Nat) (tl : Nat → Nat) (lt : Nat → Int32) (lT : Nat → Nat) (lD : Nat → Nat) (gv : Nat → Int32) (gn : Nat → Int64) (od : Nat → Nat) (br : Nat → Nat) (x : Int32) (hpn : pn ≤ 8) (hrn : rn ≤ 6) (hrA : ∀ j, rA j ≤ 1000) (haG : ∀ j, aG j ≤ 1000) : Met l y_O_price w_O_price ({ frames := 1, cells := 0, slots := 0, locals := 25 } : Room) (gPr cls D (tyL kC) [.ref (ad 0), .int x] (fl [(wO kC ad td rn pn an jn tn bm fw gp ga bp fc fj rA rC ft kd aG sR sT wh dY pd cN mN sv nd wr tl lt lT lD gv gn od br)])) (vp_Sl (fun r => r = (if inR x pn then lN (prM rA rC (aG (nOf x)) rn) else -1))) 0 0 (fun _ => False) := by
  refine Met.ofW (cc := b_O_price) (maxL := 2) (ret := (some .long)) (by decide) rfl ?_
  intro p e s m args below meth c s₁ B hml hv
  obtain ⟨rfl, hP, hK⟩ := hv
  have hx := B.exec
  have hb := B.bytes
  have hr := B.returns
  have hts := atoms_spec (ws := w_O_price) B.pre
  have hown : s.vm.findClass R_O = some m.cls := findClass_of_methodNamed B.named
  have hlocks := B.notSynchronized
  have hl := lv_entry ([.ref (ad 0), .int x]) (n := 2) (Nat.le_of_ble_eq_true rfl)
  rw [lg_entry_eq]
  generalize (lg_sl ([.ref (ad 0), .int x]) ++ List.replicate (2 - (lg_sl ([.ref (ad 0), .int x])).length) Slot.unset).toArray = ls at hl ⊢
  have hl : lv_has ls 2 [(0, .ref (ad 0)), (1, .int x)] := hl
  refine lv_aload_n hx hb d_O_price_0 rfl (lv_at hl 0 rfl) ?_
  refine lv_iload_n hx hb d_O_price_1 rfl (lv_at hl 1 rfl) ?_
  refine r_calli (W.runV (As := [.int x]) (rest := []) ⟨hx, hb, hml, hown, hts⟩ (c_O_isPart l D kC ad td rn pn an jn tn bm fw gp ga bp fc fj rA rC ft kd aG sR sT wh dY pd cN mN sv nd wr tl lt lT lD gv gn od br x (hpn)) (cwV 1 hts g_O_price_isPart rfl rfl rfl (by decide +kernel) ⟨Nat.le_of_ble_eq_true rfl, Nat.le_of_ble_eq_true rfl⟩) (r_preV (f_recv (ci := 7) (q0 := 0) hK hP 0 rfl rfl rfl) hK hP) rfl rfl hl.1 rfl (lv_room (Nat.le_of_ble_eq_true rfl)) d_O_price_2 ⟨Nat.le_of_ble_eq_true rfl, Nat.le_of_ble_eq_true rfl⟩) ?_
  refine lv_if_eq (tgt := 16) hx hb d_O_price_5 (by decide) (fun hc => ?_) (fun hc => ?_)
  · refine lv_ldc2 (v := (-1)) hx hb hown (hts (.constantLong R_O 115 (-1)) (by decide +kernel)) d_O_price_16 ?_
    exact W.lret (v := (-1)) hx hb hr (fun t ht hW => ⟨_, rfl, (if_neg (bI_0.mp hc)).symm, ht⟩) t_nil d_O_price_19
  · obtain ⟨j, hj, rfl⟩ := inR_n (by omega) (bI_n0.mp hc)
    refine lv_aload_n hx hb d_O_price_8 rfl (lv_at hl 0 rfl) ?_
    refine lv_iload_n hx hb d_O_price_9 rfl (lv_at hl 1 rfl) ?_
    refine r_calll (W.runV (As := [.int (nI j)]) (rest := []) ⟨hx, hb, hml, hown, hts⟩ (c_O_prOf l D kC ad td rn pn an jn tn bm fw gp ga bp fc fj rA rC ft kd aG sR sT wh dY pd cN mN sv nd wr tl lt lT lD gv gn od br j (by omega) (hrn) (hrA) (haG)) (cwV 1 hts g_O_price_priceOf rfl rfl rfl (by decide +kernel) ⟨Nat.le_of_ble_eq_true rfl, Nat.le_of_ble_eq_true rfl⟩) (r_preV (f_recv (ci := 7) (q0 := 0) hK hP 0 rfl rfl rfl) hK hP) rfl rfl hl.1 rfl (lv_room (Nat.le_of_ble_eq_true rfl)) d_O_price_10 ⟨Nat.le_of_ble_eq_true rfl, Nat.le_of_ble_eq_true rfl⟩) ?_
    refine lv_goto (tgt := 19) hx hb d_O_price_13 (by decide) ?_
    exact W.lret (v := lN (prM rA rC (aG j) rn)) hx hb hr (fun t ht hW => ⟨_, rfl, by rw [if_pos ((inR_nI (by omega)).mpr hj), nOf_nI (by omega)], ht⟩) t_nil d_O_price_19

abbrev b_O_state : ByteArray := prog_9_method_15_code
def y_O_state : MethodName := ⟨"PartShelvesModel", "state", "(I)I"⟩
theorem d_O_state_0 : decode b_O_state 0 = .ok (.aload_n 0, 1) := by decide +kernel
theorem d_O_state_1 : decode b_O_state 1 = .ok (.iload_n 1, 1) := by decide +kernel
theorem d_O_state_2 : decode b_O_state 2 = .ok (.invokevirtual 108, 3) := by decide +kernel
theorem d_O_state_5 : decode b_O_state 5 = .ok (.ifCond .eq 11, 3) := by decide +kernel
theorem d_O_state_8 : decode b_O_state 8 = .ok (.aload_n 0, 1) := by decide +kernel
theorem d_O_state_9 : decode b_O_state 9 = .ok (.iload_n 1, 1) := by decide +kernel
theorem d_O_state_10 : decode b_O_state 10 = .ok (.invokevirtual 117, 3) := by decide +kernel
theorem d_O_state_13 : decode b_O_state 13 = .ok (.goto 4, 3) := by decide +kernel
theorem d_O_state_16 : decode b_O_state 16 = .ok (.iconst (-1), 1) := by decide +kernel
theorem d_O_state_17 : decode b_O_state 17 = .ok (.ireturn, 1) := by decide +kernel
def w_O_state : List Cond := .code y_O_state b_O_state 2 (some .int) :: ([.methodLink "PartShelvesModel" 108 ⟨"PartShelvesModel", "isPart", "(I)Z"⟩, .instanceMethod ⟨"PartShelvesModel", "isPart", "(I)Z"⟩, .selects "PartShelvesModel" ⟨"PartShelvesModel", "isPart", "(I)Z"⟩ ⟨"PartShelvesModel", "isPart", "(I)Z"⟩, .initialized "PartShelvesModel", .code ⟨"PartShelvesModel", "isPart", "(I)Z"⟩ prog_9_method_6_code 2 (some .boolean), .fieldLink "PartShelvesModel" 81 "PartShelvesModel" "parts" "I", .methodLink "PartShelvesModel" 117 ⟨"PartShelvesModel", "stateOf", "(I)I"⟩, .instanceMethod ⟨"PartShelvesModel", "stateOf", "(I)I"⟩, .selects "PartShelvesModel" ⟨"PartShelvesModel", "stateOf", "(I)I"⟩ ⟨"PartShelvesModel", "stateOf", "(I)I"⟩, .code ⟨"PartShelvesModel", "stateOf", "(I)I"⟩ prog_9_method_14_code 2 (some .int), .fieldLink "PartShelvesModel" 30 "PartShelvesModel" "states" "[I", .fieldLink "PartShelvesModel" 36 "PartShelvesModel" "days" "[I", .fieldLink "PartShelvesModel" 88 "PartShelvesModel" "today" "I"] ++ u_ws R_O F_O 36)
set_option maxRecDepth 20000 in
theorem g_O_state_isPart : GoodIn w_O_state (wsV R_O 108 R_O y_O_isPart w_O_isPart) := goodIn_p _ [5] rfl (by decide +kernel)
set_option maxRecDepth 20000 in
theorem g_O_state_stateOf : GoodIn w_O_state (wsV R_O 117 R_O y_O_stateOf w_O_stateOf) := goodIn_p _ [10] rfl (by decide +kernel)
set_option maxHeartbeats 4000000 in
set_option maxRecDepth 100000 in
theorem c_O_state (l : Launch) (D : va_G) (kC : Nat → ClassId) (ad : Nat → Nat) (td : Nat) (rn : Nat) (pn : Nat) (an : Nat) (jn : Nat) (tn : Nat) (bm : Int32) (fw : Int64) (gp : Nat) (ga : Nat) (bp : Int32) (fc : Int64) (fj : Nat) (rA : Nat → Nat) (rC : Nat → Nat) (ft : Nat → Int32) (kd : Nat → Nat) (aG : Nat → Nat) (sR : Nat → Nat) (sT : Nat → Nat) (wh : Nat → Nat) (dY : Nat → Nat) (pd : Nat → Nat) (cN : Nat → Nat) (mN : Nat → Nat) (sv : Nat → Int32) (nd : Nat → Nat) (wr : Nat → Nat) (tl : Nat → Nat) (lt : Nat → Int32) (lT : Nat → Nat) (lD : Nat → Nat) (gv : Nat → Int32) (gn : Nat → Int64) (od : Nat → Nat) (br : Nat → Nat) (x : Int32) (hpn : pn ≤ 8) (hsT : ∀ j, sT j ≤ 3) (hdY : ∀ j, dY j ≤ 100000) (htd : td ≤ 100000) : Met l y_O_state w_O_state ({ frames := 1, cells := 0, slots := 0, locals := 25 } : Room) (gPr cls D (tyL kC) [.ref (ad 0), .int x] (fl [(wO kC ad td rn pn an jn tn bm fw gp ga bp fc fj rA rC ft kd aG sR sT wh dY pd cN mN sv nd wr tl lt lT lD gv gn od br)])) (vp_Si (fun r => r = (if inR x pn then nI (stOn (sT (nOf x)) (dY (nOf x)) td) else -1))) 0 0 (fun _ => False) := by
  refine Met.ofW (cc := b_O_state) (maxL := 2) (ret := (some .int)) (by decide) rfl ?_
  intro p e s m args below meth c s₁ B hml hv
  obtain ⟨rfl, hP, hK⟩ := hv
  have hx := B.exec
  have hb := B.bytes
  have hr := B.returns
  have hts := atoms_spec (ws := w_O_state) B.pre
  have hown : s.vm.findClass R_O = some m.cls := findClass_of_methodNamed B.named
  have hlocks := B.notSynchronized
  have hl := lv_entry ([.ref (ad 0), .int x]) (n := 2) (Nat.le_of_ble_eq_true rfl)
  rw [lg_entry_eq]
  generalize (lg_sl ([.ref (ad 0), .int x]) ++ List.replicate (2 - (lg_sl ([.ref (ad 0), .int x])).length) Slot.unset).toArray = ls at hl ⊢
  have hl : lv_has ls 2 [(0, .ref (ad 0)), (1, .int x)] := hl
  refine lv_aload_n hx hb d_O_state_0 rfl (lv_at hl 0 rfl) ?_
  refine lv_iload_n hx hb d_O_state_1 rfl (lv_at hl 1 rfl) ?_
  refine r_calli (W.runV (As := [.int x]) (rest := []) ⟨hx, hb, hml, hown, hts⟩ (c_O_isPart l D kC ad td rn pn an jn tn bm fw gp ga bp fc fj rA rC ft kd aG sR sT wh dY pd cN mN sv nd wr tl lt lT lD gv gn od br x (hpn)) (cwV 1 hts g_O_state_isPart rfl rfl rfl (by decide +kernel) ⟨Nat.le_of_ble_eq_true rfl, Nat.le_of_ble_eq_true rfl⟩) (r_preV (f_recv (ci := 7) (q0 := 0) hK hP 0 rfl rfl rfl) hK hP) rfl rfl hl.1 rfl (lv_room (Nat.le_of_ble_eq_true rfl)) d_O_state_2 ⟨Nat.le_of_ble_eq_true rfl, Nat.le_of_ble_eq_true rfl⟩) ?_
  refine lv_if_eq (tgt := 16) hx hb d_O_state_5 (by decide) (fun hc => ?_) (fun hc => ?_)
  · refine lv_iconst (v := (-1)) hx hb d_O_state_16 (by decide) ?_
    exact W.iret (v := (-1)) hx hb hr (fun t ht hW => ⟨_, rfl, (if_neg (bI_0.mp hc)).symm, ht⟩) t_nil d_O_state_17
  · obtain ⟨j, hj, rfl⟩ := inR_n (by omega) (bI_n0.mp hc)
    refine lv_aload_n hx hb d_O_state_8 rfl (lv_at hl 0 rfl) ?_
    refine lv_iload_n hx hb d_O_state_9 rfl (lv_at hl 1 rfl) ?_
    refine r_calli (W.runV (As := [.int (nI j)]) (rest := []) ⟨hx, hb, hml, hown, hts⟩ (c_O_stOf l D kC ad td rn pn an jn tn bm fw gp ga bp fc fj rA rC ft kd aG sR sT wh dY pd cN mN sv nd wr tl lt lT lD gv gn od br j (by omega) (hsT) (hdY) (htd)) (cwV 1 hts g_O_state_stateOf rfl rfl rfl (by decide +kernel) ⟨Nat.le_of_ble_eq_true rfl, Nat.le_of_ble_eq_true rfl⟩) (r_preV (f_recv (ci := 7) (q0 := 0) hK hP 0 rfl rfl rfl) hK hP) rfl rfl hl.1 rfl (lv_room (Nat.le_of_ble_eq_true rfl)) d_O_state_10 ⟨Nat.le_of_ble_eq_true rfl, Nat.le_of_ble_eq_true rfl⟩) ?_
    refine lv_goto (tgt := 17) hx hb d_O_state_13 (by decide) ?_
    exact W.iret (v := nI (stOn (sT j) (dY j) td)) hx hb hr (fun t ht hW => ⟨_, rfl, by rw [if_pos ((inR_nI (by omega)).mpr hj), nOf_nI (by omega)], ht⟩) t_nil d_O_state_17

abbrev b_O_today : ByteArray := prog_9_method_8_code
def y_O_today : MethodName := ⟨"PartShelvesModel", "today", "(I)Z"⟩
theorem d_O_today_0 : decode b_O_today 0 = .ok (.iload_n 1, 1) := by decide +kernel
theorem d_O_today_1 : decode b_O_today 1 = .ok (.i2l, 1) := by decide +kernel
theorem d_O_today_2 : decode b_O_today 2 = .ok (.aload_n 0, 1) := by decide +kernel
theorem d_O_today_3 : decode b_O_today 3 = .ok (.getfield 88, 3) := by decide +kernel
theorem d_O_today_6 : decode b_O_today 6 = .ok (.i2l, 1) := by decide +kernel
theorem d_O_today_7 : decode b_O_today 7 = .ok (.ldc2_w 91, 3) := by decide +kernel
theorem d_O_today_10 : decode b_O_today 10 = .ok (.invokestatic 93, 3) := by decide +kernel
theorem d_O_today_13 : decode b_O_today 13 = .ok (.ifCond .ne 5, 3) := by decide +kernel
theorem d_O_today_16 : decode b_O_today 16 = .ok (.iconst 0, 1) := by decide +kernel
theorem d_O_today_17 : decode b_O_today 17 = .ok (.ireturn, 1) := by decide +kernel
theorem d_O_today_18 : decode b_O_today 18 = .ok (.aload_n 0, 1) := by decide +kernel
theorem d_O_today_19 : decode b_O_today 19 = .ok (.iload_n 1, 1) := by decide +kernel
theorem d_O_today_20 : decode b_O_today 20 = .ok (.putfield 88, 3) := by decide +kernel
theorem d_O_today_23 : decode b_O_today 23 = .ok (.iconst 1, 1) := by decide +kernel
theorem d_O_today_24 : decode b_O_today 24 = .ok (.ireturn, 1) := by decide +kernel
def w_O_today : List Cond := .code y_O_today b_O_today 2 (some .boolean) :: ([.fieldLink "PartShelvesModel" 88 "PartShelvesModel" "today" "I", .constantLong "PartShelvesModel" 91 100000, .methodLink "PartShelvesModel" 93 ⟨"PartShelvesModel", "isIn", "(JJJ)Z"⟩, .static ⟨"PartShelvesModel", "isIn", "(JJJ)Z"⟩, .initialized "PartShelvesModel", .code ⟨"PartShelvesModel", "isIn", "(JJJ)Z"⟩ prog_9_method_3_code 6 (some .boolean)] ++ u_ws R_O F_O 36)
set_option maxRecDepth 20000 in
theorem g_O_today_isIn : GoodIn w_O_today (wsS R_O 93 y_O_isIn w_O_isIn) := goodIn_p _ [6] rfl (by decide +kernel)
set_option maxHeartbeats 4000000 in
set_option maxRecDepth 100000 in
theorem c_O_today (l : Launch) (D : va_G) (kC : Nat → ClassId) (ad : Nat → Nat) (td : Nat) (rn : Nat) (pn : Nat) (an : Nat) (jn : Nat) (tn : Nat) (bm : Int32) (fw : Int64) (gp : Nat) (ga : Nat) (bp : Int32) (fc : Int64) (fj : Nat) (rA : Nat → Nat) (rC : Nat → Nat) (ft : Nat → Int32) (kd : Nat → Nat) (aG : Nat → Nat) (sR : Nat → Nat) (sT : Nat → Nat) (wh : Nat → Nat) (dY : Nat → Nat) (pd : Nat → Nat) (cN : Nat → Nat) (mN : Nat → Nat) (sv : Nat → Int32) (nd : Nat → Nat) (wr : Nat → Nat) (tl : Nat → Nat) (lt : Nat → Int32) (lT : Nat → Nat) (lD : Nat → Nat) (gv : Nat → Int32) (gn : Nat → Int64) (od : Nat → Nat) (br : Nat → Nat) (x : Int32) (sz : Nat) (htd : td ≤ 100000) : Met l y_O_today w_O_today ({ frames := 1, cells := 0, slots := 0, locals := 25 } : Room) (gPre cls D (tyL kC) [.ref (ad 0), .int x] (fl [(wO kC ad td rn pn an jn tn bm fw gp ga bp fc fj rA rC ft kd aG sR sT wh dY pd cN mN sv nd wr tl lt lT lD gv gn od br)]) sz) (gQi cls D (tyL kC) (fl [(wO kC ad td rn pn an jn tn bm fw gp ga bp fc fj rA rC ft kd aG sR sT wh dY pd cN mN sv nd wr tl lt lT lD gv gn od br)]) sz (bI (inI td 100000 x)) (fl [(wO kC ad (if inI td 100000 x then nOf x else td) rn pn an jn tn bm fw gp ga bp fc fj rA rC ft kd aG sR sT wh dY pd cN mN sv nd wr tl lt lT lD gv gn od br)])) 0 0 (va_A (fl [(wO kC ad td rn pn an jn tn bm fw gp ga bp fc fj rA rC ft kd aG sR sT wh dY pd cN mN sv nd wr tl lt lT lD gv gn od br)]) sz) := by
  refine Met.ofW (cc := b_O_today) (maxL := 2) (ret := (some .boolean)) (by decide) rfl ?_
  intro p e s m args below meth c s₁ B hml hv
  obtain ⟨rfl, hsz, hP, hK, hD0⟩ := hv
  have hx := B.exec
  have hb := B.bytes
  have hr := B.returns
  have hts := atoms_spec (ws := w_O_today) B.pre
  have hown : s.vm.findClass R_O = some m.cls := findClass_of_methodNamed B.named
  have hlocks := B.notSynchronized
  subst hsz
  obtain ⟨A, hAe⟩ : ∃ A : Nat → Prop, A = va_A (fl [(wO kC ad td rn pn an jn tn bm fw gp ga bp fc fj rA rC ft kd aG sR sT wh dY pd cN mN sv nd wr tl lt lT lD gv gn od br)]) s.heap.size := ⟨_, rfl⟩
  have hD : va_D A (fl [(wO kC ad td rn pn an jn tn bm fw gp ga bp fc fj rA rC ft kd aG sR sT wh dY pd cN mN sv nd wr tl lt lT lD gv gn od br)]) := by rw [hAe]; exact hD0.self
  have hA : ∀ q : Nat, s.heap.size ≤ q → A q := fun q h => by rw [hAe]; exact Or.inr h
  have hS : va_S A s.heap s.heap [] := va_S.rf
  have hl := lv_entry ([.ref (ad 0), .int x]) (n := 2) (Nat.le_of_ble_eq_true rfl)
  rw [lg_entry_eq]
  generalize (lg_sl ([.ref (ad 0), .int x]) ++ List.replicate (2 - (lg_sl ([.ref (ad 0), .int x])).length) Slot.unset).toArray = ls at hl ⊢
  have hl : lv_has ls 2 [(0, .ref (ad 0)), (1, .int x)] := hl
  refine lv_iload_n hx hb d_O_today_0 rfl (lv_at hl 1 rfl) ?_
  refine lv_i2l hx hb d_O_today_1 rfl ?_
  refine lv_aload_n hx hb d_O_today_2 rfl (lv_at hl 0 rfl) ?_
  refine fv_get (ci := 7) (v := .int (nI td)) (C := R_O) (T := F_O) (N := 36) hx hb hts (by decide +kernel) hown hK hP 0 0 rfl rfl rfl 0 (by decide) (hts (.fieldLink R_O 88 "PartShelvesModel" "today" "I") (by decide +kernel)) (fun _ h9 => h9) rfl d_O_today_3 ?_
  refine nv_i2l hx hb d_O_today_6 (by omega) ?_
  refine lv_ldc2 (v := 100000) hx hb hown (hts (.constantLong R_O 91 100000) (by decide +kernel)) d_O_today_7 ?_
  refine nv_topl (y := lN 100000) (by decide +kernel) ?_
  refine r_calli (W.runS (As := [.long x.toInt64, .long (lN td), .long (lN 100000)]) (rest := []) ⟨hx, hb, hml, hown, hts⟩ (c_O_isIn l x.toInt64 td 100000 (by omega) (by decide)) (cwS 3 hts g_O_today_isIn rfl rfl rfl (by decide +kernel) ⟨Nat.le_of_ble_eq_true rfl, Nat.le_of_ble_eq_true rfl⟩) p0_preS rfl rfl hl.1 rfl (lv_room (Nat.le_of_ble_eq_true rfl)) d_O_today_10 ⟨Nat.le_of_ble_eq_true rfl, Nat.le_of_ble_eq_true rfl⟩) ?_
  refine lv_if_ne (tgt := 18) hx hb d_O_today_13 (by decide) (fun hc => ?_) (fun hc => ?_)
  · have hC := inL_i.mp (bI_n0.mp hc)
    obtain ⟨j, hj1, hj2, rfl⟩ := inI_n (by decide) hC
    refine lv_aload_n hx hb d_O_today_18 rfl (lv_at hl 0 rfl) ?_
    refine lv_iload_n hx hb d_O_today_19 rfl (lv_at hl 1 rfl) ?_
    refine fv_put (ci := 7) (v := .int (nI j)) (ty := (.int)) (C := R_O) (T := F_O) (N := 36) hx hb hts (by decide +kernel) t_O t_O_ok n_O hown hK hP hD hS 0 0 rfl rfl rfl 0 (by decide) (hts (.fieldLink R_O 88 "PartShelvesModel" "today" "I") (by decide +kernel)) (fun _ h9 => h9) rfl (by decide +kernel) (rfl) (rfl) (Nat.le_of_ble_eq_true rfl) d_O_today_20 (fun H locs hP hD hS => ?_)
    have hP : va_P D cls (fl [(wO kC ad j rn pn an jn tn bm fw gp ga bp fc fj rA rC ft kd aG sR sT wh dY pd cN mN sv nd wr tl lt lT lD gv gn od br)]) H := hP
    have hD : va_D A (fl [(wO kC ad j rn pn an jn tn bm fw gp ga bp fc fj rA rC ft kd aG sR sT wh dY pd cN mN sv nd wr tl lt lT lD gv gn od br)]) := hD
    refine lv_iconst (v := nI 1) hx hb d_O_today_23 (by decide) ?_
    have ew1 : j = (if inI td 100000 (nI j) then nOf (nI j) else td) := by rw [if_pos hC, nOf_nI (by omega)]
    have hP : va_P D cls (fl [(wO kC ad (if inI td 100000 (nI j) then nOf (nI j) else td) rn pn an jn tn bm fw gp ga bp fc fj rA rC ft kd aG sR sT wh dY pd cN mN sv nd wr tl lt lT lD gv gn od br)]) H := by rw [← ew1]; exact hP
    have hD : va_D A (fl [(wO kC ad (if inI td 100000 (nI j) then nOf (nI j) else td) rn pn an jn tn bm fw gp ga bp fc fj rA rC ft kd aG sR sT wh dY pd cN mN sv nd wr tl lt lT lD gv gn od br)]) := by rw [← ew1]; exact hD
    exact W.zret (v := nI 1) hx hb hr (nar_b (by first | exact Or.inl rfl | exact Or.inr rfl | exact bI_01)) (fun t ht hW => by subst hAe; exact ⟨⟨(nI 1), (), rfl, (bI_t hC).symm, by rw [ht]; exact hP, va_K.moved hW.alike hK, hD⟩, hS.F ht⟩) (by subst hAe; exact hS.2.2) d_O_today_24
  · have hC : ¬ inI td 100000 x := fun q => bI_0.mp hc (inL_i.mpr q)
    refine lv_iconst (v := nI 0) hx hb d_O_today_16 (by decide) ?_
    have ew2 : td = (if inI td 100000 x then nOf x else td) := (if_neg hC).symm
    have hP : va_P D cls (fl [(wO kC ad (if inI td 100000 x then nOf x else td) rn pn an jn tn bm fw gp ga bp fc fj rA rC ft kd aG sR sT wh dY pd cN mN sv nd wr tl lt lT lD gv gn od br)]) s.heap := by rw [← ew2]; exact hP
    have hD : va_D A (fl [(wO kC ad (if inI td 100000 x then nOf x else td) rn pn an jn tn bm fw gp ga bp fc fj rA rC ft kd aG sR sT wh dY pd cN mN sv nd wr tl lt lT lD gv gn od br)]) := by rw [← ew2]; exact hD
    exact W.zret (v := nI 0) hx hb hr (nar_b (by first | exact Or.inl rfl | exact Or.inr rfl | exact bI_01)) (fun t ht hW => by subst hAe; exact ⟨⟨(nI 0), (), rfl, (bI_f hC).symm, by rw [ht]; exact hP, va_K.moved hW.alike hK, hD⟩, hS.F ht⟩) (by subst hAe; exact hS.2.2) d_O_today_17

abbrev b_O_row : ByteArray := prog_9_method_9_code
def y_O_row : MethodName := ⟨"PartShelvesModel", "row", "(IJ)Z"⟩
theorem d_O_row_0 : decode b_O_row 0 = .ok (.aload_n 0, 1) := by decide +kernel
theorem d_O_row_1 : decode b_O_row 1 = .ok (.getfield 97, 3) := by decide +kernel
theorem d_O_row_4 : decode b_O_row 4 = .ok (.bipush 6, 2) := by decide +kernel
theorem d_O_row_6 : decode b_O_row 6 = .ok (.if_icmp .eq 48, 3) := by decide +kernel
theorem d_O_row_9 : decode b_O_row 9 = .ok (.iload_n 1, 1) := by decide +kernel
theorem d_O_row_10 : decode b_O_row 10 = .ok (.i2l, 1) := by decide +kernel
theorem d_O_row_11 : decode b_O_row 11 = .ok (.lconst 0, 1) := by decide +kernel
theorem d_O_row_12 : decode b_O_row 12 = .ok (.ldc2_w 100, 3) := by decide +kernel
theorem d_O_row_15 : decode b_O_row 15 = .ok (.invokestatic 93, 3) := by decide +kernel
theorem d_O_row_18 : decode b_O_row 18 = .ok (.ifCond .eq 36, 3) := by decide +kernel
theorem d_O_row_21 : decode b_O_row 21 = .ok (.lload_n 2, 1) := by decide +kernel
theorem d_O_row_22 : decode b_O_row 22 = .ok (.lconst 0, 1) := by decide +kernel
theorem d_O_row_23 : decode b_O_row 23 = .ok (.ldc2_w 91, 3) := by decide +kernel
theorem d_O_row_26 : decode b_O_row 26 = .ok (.invokestatic 93, 3) := by decide +kernel
theorem d_O_row_29 : decode b_O_row 29 = .ok (.ifCond .eq 25, 3) := by decide +kernel
theorem d_O_row_32 : decode b_O_row 32 = .ok (.aload_n 0, 1) := by decide +kernel
theorem d_O_row_33 : decode b_O_row 33 = .ok (.getfield 97, 3) := by decide +kernel
theorem d_O_row_36 : decode b_O_row 36 = .ok (.ifCond .le 20, 3) := by decide +kernel
theorem d_O_row_39 : decode b_O_row 39 = .ok (.iload_n 1, 1) := by decide +kernel
theorem d_O_row_40 : decode b_O_row 40 = .ok (.aload_n 0, 1) := by decide +kernel
theorem d_O_row_41 : decode b_O_row 41 = .ok (.getfield 7, 3) := by decide +kernel
theorem d_O_row_44 : decode b_O_row 44 = .ok (.aload_n 0, 1) := by decide +kernel
theorem d_O_row_45 : decode b_O_row 45 = .ok (.getfield 97, 3) := by decide +kernel
theorem d_O_row_48 : decode b_O_row 48 = .ok (.iconst 1, 1) := by decide +kernel
theorem d_O_row_49 : decode b_O_row 49 = .ok (.isub, 1) := by decide +kernel
theorem d_O_row_50 : decode b_O_row 50 = .ok (.iaload, 1) := by decide +kernel
theorem d_O_row_51 : decode b_O_row 51 = .ok (.if_icmp .gt 5, 3) := by decide +kernel
theorem d_O_row_54 : decode b_O_row 54 = .ok (.iconst 0, 1) := by decide +kernel
theorem d_O_row_55 : decode b_O_row 55 = .ok (.ireturn, 1) := by decide +kernel
theorem d_O_row_56 : decode b_O_row 56 = .ok (.aload_n 0, 1) := by decide +kernel
theorem d_O_row_57 : decode b_O_row 57 = .ok (.getfield 7, 3) := by decide +kernel
theorem d_O_row_60 : decode b_O_row 60 = .ok (.aload_n 0, 1) := by decide +kernel
theorem d_O_row_61 : decode b_O_row 61 = .ok (.getfield 97, 3) := by decide +kernel
theorem d_O_row_64 : decode b_O_row 64 = .ok (.iload_n 1, 1) := by decide +kernel
theorem d_O_row_65 : decode b_O_row 65 = .ok (.iastore, 1) := by decide +kernel
theorem d_O_row_66 : decode b_O_row 66 = .ok (.aload_n 0, 1) := by decide +kernel
theorem d_O_row_67 : decode b_O_row 67 = .ok (.getfield 13, 3) := by decide +kernel
theorem d_O_row_70 : decode b_O_row 70 = .ok (.aload_n 0, 1) := by decide +kernel
theorem d_O_row_71 : decode b_O_row 71 = .ok (.getfield 97, 3) := by decide +kernel
theorem d_O_row_74 : decode b_O_row 74 = .ok (.lload_n 2, 1) := by decide +kernel
theorem d_O_row_75 : decode b_O_row 75 = .ok (.lastore, 1) := by decide +kernel
theorem d_O_row_76 : decode b_O_row 76 = .ok (.aload_n 0, 1) := by decide +kernel
theorem d_O_row_77 : decode b_O_row 77 = .ok (.dup, 1) := by decide +kernel
theorem d_O_row_78 : decode b_O_row 78 = .ok (.getfield 97, 3) := by decide +kernel
theorem d_O_row_81 : decode b_O_row 81 = .ok (.iconst 1, 1) := by decide +kernel
theorem d_O_row_82 : decode b_O_row 82 = .ok (.iadd, 1) := by decide +kernel
theorem d_O_row_83 : decode b_O_row 83 = .ok (.putfield 97, 3) := by decide +kernel
theorem d_O_row_86 : decode b_O_row 86 = .ok (.iconst 1, 1) := by decide +kernel
theorem d_O_row_87 : decode b_O_row 87 = .ok (.ireturn, 1) := by decide +kernel
def w_O_row : List Cond := .code y_O_row b_O_row 4 (some .boolean) :: ([.fieldLink "PartShelvesModel" 97 "PartShelvesModel" "rows" "I", .constantLong "PartShelvesModel" 100 1000, .methodLink "PartShelvesModel" 93 ⟨"PartShelvesModel", "isIn", "(JJJ)Z"⟩, .static ⟨"PartShelvesModel", "isIn", "(JJJ)Z"⟩, .initialized "PartShelvesModel", .code ⟨"PartShelvesModel", "isIn", "(JJJ)Z"⟩ prog_9_method_3_code 6 (some .boolean), .constantLong "PartShelvesModel" 91 100000, .fieldLink "PartShelvesModel" 7 "PartShelvesModel" "rowAges" "[I", .fieldLink "PartShelvesModel" 13 "PartShelvesModel" "rowCents" "[J"] ++ u_ws R_O F_O 36)
set_option maxRecDepth 20000 in
theorem g_O_row_isIn : GoodIn w_O_row (wsS R_O 93 y_O_isIn w_O_isIn) := goodIn_p _ [6] rfl (by decide +kernel)
set_option maxHeartbeats 4000000 in
set_option maxRecDepth 100000 in
theorem c_O_row (l : Launch) (D : va_G) (kC : Nat → ClassId) (ad : Nat → Nat) (td : Nat) (rn : Nat) (pn : Nat) (an : Nat) (jn : Nat) (tn : Nat) (bm : Int32) (fw : Int64) (gp : Nat) (ga : Nat) (bp : Int32) (fc : Int64) (fj : Nat) (rA : Nat → Nat) (rC : Nat → Nat) (ft : Nat → Int32) (kd : Nat → Nat) (aG : Nat → Nat) (sR : Nat → Nat) (sT : Nat → Nat) (wh : Nat → Nat) (dY : Nat → Nat) (pd : Nat → Nat) (cN : Nat → Nat) (mN : Nat → Nat) (sv : Nat → Int32) (nd : Nat → Nat) (wr : Nat → Nat) (tl : Nat → Nat) (lt : Nat → Int32) (lT : Nat → Nat) (lD : Nat → Nat) (gv : Nat → Int32) (gn : Nat → Int64) (od : Nat → Nat) (br : Nat → Nat) (x : Int32) (v : Int64) (sz : Nat) (hrn : rn ≤ 6) (hrA : ∀ j, rA j ≤ 1000) : Met l y_O_row w_O_row ({ frames := 1, cells := 0, slots := 0, locals := 25 } : Room) (gPre cls D (tyL kC) [.ref (ad 0), .int x, .long v] (fl [(wO kC ad td rn pn an jn tn bm fw gp ga bp fc fj rA rC ft kd aG sR sT wh dY pd cN mN sv nd wr tl lt lT lD gv gn od br)]) sz) (gQi cls D (tyL kC) (fl [(wO kC ad td rn pn an jn tn bm fw gp ga bp fc fj rA rC ft kd aG sR sT wh dY pd cN mN sv nd wr tl lt lT lD gv gn od br)]) sz (bI (rn < 6 ∧ inI 0 1000 x ∧ inL 0 100000 v ∧ (rn = 0 ∨ rA (rn - 1) < nOf x))) (fl [(wO kC ad td (if (rn < 6 ∧ inI 0 1000 x ∧ inL 0 100000 v ∧ (rn = 0 ∨ rA (rn - 1) < nOf x)) then rn + 1 else rn) pn an jn tn bm fw gp ga bp fc fj (if (rn < 6 ∧ inI 0 1000 x ∧ inL 0 100000 v ∧ (rn = 0 ∨ rA (rn - 1) < nOf x)) then updN rA rn (nOf x) else rA) (if (rn < 6 ∧ inI 0 1000 x ∧ inL 0 100000 v ∧ (rn = 0 ∨ rA (rn - 1) < nOf x)) then updN rC rn (nOfL v) else rC) ft kd aG sR sT wh dY pd cN mN sv nd wr tl lt lT lD gv gn od br)])) 0 0 (va_A (fl [(wO kC ad td rn pn an jn tn bm fw gp ga bp fc fj rA rC ft kd aG sR sT wh dY pd cN mN sv nd wr tl lt lT lD gv gn od br)]) sz) := by
  refine Met.ofW (cc := b_O_row) (maxL := 4) (ret := (some .boolean)) (by decide) rfl ?_
  intro p e s m args below meth c s₁ B hml hv
  obtain ⟨rfl, hsz, hP, hK, hD0⟩ := hv
  have hx := B.exec
  have hb := B.bytes
  have hr := B.returns
  have hts := atoms_spec (ws := w_O_row) B.pre
  have hown : s.vm.findClass R_O = some m.cls := findClass_of_methodNamed B.named
  have hlocks := B.notSynchronized
  subst hsz
  obtain ⟨A, hAe⟩ : ∃ A : Nat → Prop, A = va_A (fl [(wO kC ad td rn pn an jn tn bm fw gp ga bp fc fj rA rC ft kd aG sR sT wh dY pd cN mN sv nd wr tl lt lT lD gv gn od br)]) s.heap.size := ⟨_, rfl⟩
  have hD : va_D A (fl [(wO kC ad td rn pn an jn tn bm fw gp ga bp fc fj rA rC ft kd aG sR sT wh dY pd cN mN sv nd wr tl lt lT lD gv gn od br)]) := by rw [hAe]; exact hD0.self
  have hA : ∀ q : Nat, s.heap.size ≤ q → A q := fun q h => by rw [hAe]; exact Or.inr h
  have hS : va_S A s.heap s.heap [] := va_S.rf
  have hl := lv_entry ([.ref (ad 0), .int x, .long v]) (n := 4) (Nat.le_of_ble_eq_true rfl)
  rw [lg_entry_eq]
  generalize (lg_sl ([.ref (ad 0), .int x, .long v]) ++ List.replicate (4 - (lg_sl ([.ref (ad 0), .int x, .long v])).length) Slot.unset).toArray = ls at hl ⊢
  have hl : lv_has ls 4 [(0, .ref (ad 0)), (1, .int x), (2, .long v)] := hl
  refine lv_aload_n hx hb d_O_row_0 rfl (lv_at hl 0 rfl) ?_
  refine fv_get (ci := 7) (v := .int (nI rn)) (C := R_O) (T := F_O) (N := 36) hx hb hts (by decide +kernel) hown hK hP 0 0 rfl rfl rfl 1 (by decide) (hts (.fieldLink R_O 97 "PartShelvesModel" "rows" "I") (by decide +kernel)) (fun _ h9 => h9) rfl d_O_row_1 ?_
  refine lv_bipush (v := nI 6) hx hb d_O_row_4 (by decide +kernel) ?_
  refine nv_icmp_eq (tgt := 54) hx hb d_O_row_6 (by decide) (by omega) (by omega) (fun h1 => ?_) (fun h1 => ?_)
  · have hC : ¬ (rn < 6 ∧ inI 0 1000 x ∧ inL 0 100000 v ∧ (rn = 0 ∨ rA (rn - 1) < nOf x)) := fun q => by first | (have := q.1; omega) | exact absurd (inL_i.mpr q.2.1) (bI_0.mp h2) | exact absurd q.2.2.1 (bI_0.mp h3) | (rcases q.2.2.2 with q4 | q4; omega; rw [nOf_nI (by omega)] at q4; omega)
    refine lv_iconst (v := nI 0) hx hb d_O_row_54 (by decide) ?_
    have ew1 : rA = (if (rn < 6 ∧ inI 0 1000 x ∧ inL 0 100000 v ∧ (rn = 0 ∨ rA (rn - 1) < nOf x)) then updN rA rn (nOf x) else rA) := (if_neg hC).symm
    have hP : va_P D cls (fl [(wO kC ad td rn pn an jn tn bm fw gp ga bp fc fj (if (rn < 6 ∧ inI 0 1000 x ∧ inL 0 100000 v ∧ (rn = 0 ∨ rA (rn - 1) < nOf x)) then updN rA rn (nOf x) else rA) rC ft kd aG sR sT wh dY pd cN mN sv nd wr tl lt lT lD gv gn od br)]) s.heap := by rw [← ew1]; exact hP
    have hD : va_D A (fl [(wO kC ad td rn pn an jn tn bm fw gp ga bp fc fj (if (rn < 6 ∧ inI 0 1000 x ∧ inL 0 100000 v ∧ (rn = 0 ∨ rA (rn - 1) < nOf x)) then updN rA rn (nOf x) else rA) rC ft kd aG sR sT wh dY pd cN mN sv nd wr tl lt lT lD gv gn od br)]) := by rw [← ew1]; exact hD
    have ew2 : rC = (if (rn < 6 ∧ inI 0 1000 x ∧ inL 0 100000 v ∧ (rn = 0 ∨ rA (rn - 1) < nOf x)) then updN rC rn (nOfL v) else rC) := (if_neg hC).symm
    have hP : va_P D cls (fl [(wO kC ad td rn pn an jn tn bm fw gp ga bp fc fj (if (rn < 6 ∧ inI 0 1000 x ∧ inL 0 100000 v ∧ (rn = 0 ∨ rA (rn - 1) < nOf x)) then updN rA rn (nOf x) else rA) (if (rn < 6 ∧ inI 0 1000 x ∧ inL 0 100000 v ∧ (rn = 0 ∨ rA (rn - 1) < nOf x)) then updN rC rn (nOfL v) else rC) ft kd aG sR sT wh dY pd cN mN sv nd wr tl lt lT lD gv gn od br)]) s.heap := by rw [← ew2]; exact hP
    have hD : va_D A (fl [(wO kC ad td rn pn an jn tn bm fw gp ga bp fc fj (if (rn < 6 ∧ inI 0 1000 x ∧ inL 0 100000 v ∧ (rn = 0 ∨ rA (rn - 1) < nOf x)) then updN rA rn (nOf x) else rA) (if (rn < 6 ∧ inI 0 1000 x ∧ inL 0 100000 v ∧ (rn = 0 ∨ rA (rn - 1) < nOf x)) then updN rC rn (nOfL v) else rC) ft kd aG sR sT wh dY pd cN mN sv nd wr tl lt lT lD gv gn od br)]) := by rw [← ew2]; exact hD
    have ew3 : rn = (if (rn < 6 ∧ inI 0 1000 x ∧ inL 0 100000 v ∧ (rn = 0 ∨ rA (rn - 1) < nOf x)) then rn + 1 else rn) := (if_neg hC).symm
    have hP : va_P D cls (fl [(wO kC ad td (if (rn < 6 ∧ inI 0 1000 x ∧ inL 0 100000 v ∧ (rn = 0 ∨ rA (rn - 1) < nOf x)) then rn + 1 else rn) pn an jn tn bm fw gp ga bp fc fj (if (rn < 6 ∧ inI 0 1000 x ∧ inL 0 100000 v ∧ (rn = 0 ∨ rA (rn - 1) < nOf x)) then updN rA rn (nOf x) else rA) (if (rn < 6 ∧ inI 0 1000 x ∧ inL 0 100000 v ∧ (rn = 0 ∨ rA (rn - 1) < nOf x)) then updN rC rn (nOfL v) else rC) ft kd aG sR sT wh dY pd cN mN sv nd wr tl lt lT lD gv gn od br)]) s.heap := by rw [← ew3]; exact hP
    have hD : va_D A (fl [(wO kC ad td (if (rn < 6 ∧ inI 0 1000 x ∧ inL 0 100000 v ∧ (rn = 0 ∨ rA (rn - 1) < nOf x)) then rn + 1 else rn) pn an jn tn bm fw gp ga bp fc fj (if (rn < 6 ∧ inI 0 1000 x ∧ inL 0 100000 v ∧ (rn = 0 ∨ rA (rn - 1) < nOf x)) then updN rA rn (nOf x) else rA) (if (rn < 6 ∧ inI 0 1000 x ∧ inL 0 100000 v ∧ (rn = 0 ∨ rA (rn - 1) < nOf x)) then updN rC rn (nOfL v) else rC) ft kd aG sR sT wh dY pd cN mN sv nd wr tl lt lT lD gv gn od br)]) := by rw [← ew3]; exact hD
    exact W.zret (v := nI 0) hx hb hr (nar_b (by first | exact Or.inl rfl | exact Or.inr rfl | exact bI_01)) (fun t ht hW => by subst hAe; exact ⟨⟨(nI 0), (), rfl, (bI_f hC).symm, by rw [ht]; exact hP, va_K.moved hW.alike hK, hD⟩, hS.F ht⟩) (by subst hAe; exact hS.2.2) d_O_row_55
  · refine lv_iload_n hx hb d_O_row_9 rfl (lv_at hl 1 rfl) ?_
    refine lv_i2l hx hb d_O_row_10 rfl ?_
    refine lv_lconst (v := lN 0) hx hb d_O_row_11 (by decide) ?_
    refine lv_ldc2 (v := 1000) hx hb hown (hts (.constantLong R_O 100 1000) (by decide +kernel)) d_O_row_12 ?_
    refine nv_topl (y := lN 1000) (by decide +kernel) ?_
    refine r_calli (W.runS (As := [.long x.toInt64, .long (lN 0), .long (lN 1000)]) (rest := []) ⟨hx, hb, hml, hown, hts⟩ (c_O_isIn l x.toInt64 0 1000 (by decide) (by decide)) (cwS 3 hts g_O_row_isIn rfl rfl rfl (by decide +kernel) ⟨Nat.le_of_ble_eq_true rfl, Nat.le_of_ble_eq_true rfl⟩) p0_preS rfl rfl hl.1 rfl (lv_room (Nat.le_of_ble_eq_true rfl)) d_O_row_15 ⟨Nat.le_of_ble_eq_true rfl, Nat.le_of_ble_eq_true rfl⟩) ?_
    refine lv_if_eq (tgt := 54) hx hb d_O_row_18 (by decide) (fun h2 => ?_) (fun h2 => ?_)
    · have hC : ¬ (rn < 6 ∧ inI 0 1000 x ∧ inL 0 100000 v ∧ (rn = 0 ∨ rA (rn - 1) < nOf x)) := fun q => by first | (have := q.1; omega) | exact absurd (inL_i.mpr q.2.1) (bI_0.mp h2) | exact absurd q.2.2.1 (bI_0.mp h3) | (rcases q.2.2.2 with q4 | q4; omega; rw [nOf_nI (by omega)] at q4; omega)
      refine lv_iconst (v := nI 0) hx hb d_O_row_54 (by decide) ?_
      have ew4 : rA = (if (rn < 6 ∧ inI 0 1000 x ∧ inL 0 100000 v ∧ (rn = 0 ∨ rA (rn - 1) < nOf x)) then updN rA rn (nOf x) else rA) := (if_neg hC).symm
      have hP : va_P D cls (fl [(wO kC ad td rn pn an jn tn bm fw gp ga bp fc fj (if (rn < 6 ∧ inI 0 1000 x ∧ inL 0 100000 v ∧ (rn = 0 ∨ rA (rn - 1) < nOf x)) then updN rA rn (nOf x) else rA) rC ft kd aG sR sT wh dY pd cN mN sv nd wr tl lt lT lD gv gn od br)]) s.heap := by rw [← ew4]; exact hP
      have hD : va_D A (fl [(wO kC ad td rn pn an jn tn bm fw gp ga bp fc fj (if (rn < 6 ∧ inI 0 1000 x ∧ inL 0 100000 v ∧ (rn = 0 ∨ rA (rn - 1) < nOf x)) then updN rA rn (nOf x) else rA) rC ft kd aG sR sT wh dY pd cN mN sv nd wr tl lt lT lD gv gn od br)]) := by rw [← ew4]; exact hD
      have ew5 : rC = (if (rn < 6 ∧ inI 0 1000 x ∧ inL 0 100000 v ∧ (rn = 0 ∨ rA (rn - 1) < nOf x)) then updN rC rn (nOfL v) else rC) := (if_neg hC).symm
      have hP : va_P D cls (fl [(wO kC ad td rn pn an jn tn bm fw gp ga bp fc fj (if (rn < 6 ∧ inI 0 1000 x ∧ inL 0 100000 v ∧ (rn = 0 ∨ rA (rn - 1) < nOf x)) then updN rA rn (nOf x) else rA) (if (rn < 6 ∧ inI 0 1000 x ∧ inL 0 100000 v ∧ (rn = 0 ∨ rA (rn - 1) < nOf x)) then updN rC rn (nOfL v) else rC) ft kd aG sR sT wh dY pd cN mN sv nd wr tl lt lT lD gv gn od br)]) s.heap := by rw [← ew5]; exact hP
      have hD : va_D A (fl [(wO kC ad td rn pn an jn tn bm fw gp ga bp fc fj (if (rn < 6 ∧ inI 0 1000 x ∧ inL 0 100000 v ∧ (rn = 0 ∨ rA (rn - 1) < nOf x)) then updN rA rn (nOf x) else rA) (if (rn < 6 ∧ inI 0 1000 x ∧ inL 0 100000 v ∧ (rn = 0 ∨ rA (rn - 1) < nOf x)) then updN rC rn (nOfL v) else rC) ft kd aG sR sT wh dY pd cN mN sv nd wr tl lt lT lD gv gn od br)]) := by rw [← ew5]; exact hD
      have ew6 : rn = (if (rn < 6 ∧ inI 0 1000 x ∧ inL 0 100000 v ∧ (rn = 0 ∨ rA (rn - 1) < nOf x)) then rn + 1 else rn) := (if_neg hC).symm
      have hP : va_P D cls (fl [(wO kC ad td (if (rn < 6 ∧ inI 0 1000 x ∧ inL 0 100000 v ∧ (rn = 0 ∨ rA (rn - 1) < nOf x)) then rn + 1 else rn) pn an jn tn bm fw gp ga bp fc fj (if (rn < 6 ∧ inI 0 1000 x ∧ inL 0 100000 v ∧ (rn = 0 ∨ rA (rn - 1) < nOf x)) then updN rA rn (nOf x) else rA) (if (rn < 6 ∧ inI 0 1000 x ∧ inL 0 100000 v ∧ (rn = 0 ∨ rA (rn - 1) < nOf x)) then updN rC rn (nOfL v) else rC) ft kd aG sR sT wh dY pd cN mN sv nd wr tl lt lT lD gv gn od br)]) s.heap := by rw [← ew6]; exact hP
      have hD : va_D A (fl [(wO kC ad td (if (rn < 6 ∧ inI 0 1000 x ∧ inL 0 100000 v ∧ (rn = 0 ∨ rA (rn - 1) < nOf x)) then rn + 1 else rn) pn an jn tn bm fw gp ga bp fc fj (if (rn < 6 ∧ inI 0 1000 x ∧ inL 0 100000 v ∧ (rn = 0 ∨ rA (rn - 1) < nOf x)) then updN rA rn (nOf x) else rA) (if (rn < 6 ∧ inI 0 1000 x ∧ inL 0 100000 v ∧ (rn = 0 ∨ rA (rn - 1) < nOf x)) then updN rC rn (nOfL v) else rC) ft kd aG sR sT wh dY pd cN mN sv nd wr tl lt lT lD gv gn od br)]) := by rw [← ew6]; exact hD
      exact W.zret (v := nI 0) hx hb hr (nar_b (by first | exact Or.inl rfl | exact Or.inr rfl | exact bI_01)) (fun t ht hW => by subst hAe; exact ⟨⟨(nI 0), (), rfl, (bI_f hC).symm, by rw [ht]; exact hP, va_K.moved hW.alike hK, hD⟩, hS.F ht⟩) (by subst hAe; exact hS.2.2) d_O_row_55
    · have h2 := inL_i.mp (bI_n0.mp h2)
      refine lv_lload_n hx hb d_O_row_21 rfl (lv_at hl 2 rfl) ?_
      refine lv_lconst (v := lN 0) hx hb d_O_row_22 (by decide) ?_
      refine lv_ldc2 (v := 100000) hx hb hown (hts (.constantLong R_O 91 100000) (by decide +kernel)) d_O_row_23 ?_
      refine nv_topl (y := lN 100000) (by decide +kernel) ?_
      refine r_calli (W.runS (As := [.long v, .long (lN 0), .long (lN 100000)]) (rest := []) ⟨hx, hb, hml, hown, hts⟩ (c_O_isIn l v 0 100000 (by decide) (by decide)) (cwS 3 hts g_O_row_isIn rfl rfl rfl (by decide +kernel) ⟨Nat.le_of_ble_eq_true rfl, Nat.le_of_ble_eq_true rfl⟩) p0_preS rfl rfl hl.1 rfl (lv_room (Nat.le_of_ble_eq_true rfl)) d_O_row_26 ⟨Nat.le_of_ble_eq_true rfl, Nat.le_of_ble_eq_true rfl⟩) ?_
      refine lv_if_eq (tgt := 54) hx hb d_O_row_29 (by decide) (fun h3 => ?_) (fun h3 => ?_)
      · have hC : ¬ (rn < 6 ∧ inI 0 1000 x ∧ inL 0 100000 v ∧ (rn = 0 ∨ rA (rn - 1) < nOf x)) := fun q => by first | (have := q.1; omega) | exact absurd (inL_i.mpr q.2.1) (bI_0.mp h2) | exact absurd q.2.2.1 (bI_0.mp h3) | (rcases q.2.2.2 with q4 | q4; omega; rw [nOf_nI (by omega)] at q4; omega)
        refine lv_iconst (v := nI 0) hx hb d_O_row_54 (by decide) ?_
        have ew7 : rA = (if (rn < 6 ∧ inI 0 1000 x ∧ inL 0 100000 v ∧ (rn = 0 ∨ rA (rn - 1) < nOf x)) then updN rA rn (nOf x) else rA) := (if_neg hC).symm
        have hP : va_P D cls (fl [(wO kC ad td rn pn an jn tn bm fw gp ga bp fc fj (if (rn < 6 ∧ inI 0 1000 x ∧ inL 0 100000 v ∧ (rn = 0 ∨ rA (rn - 1) < nOf x)) then updN rA rn (nOf x) else rA) rC ft kd aG sR sT wh dY pd cN mN sv nd wr tl lt lT lD gv gn od br)]) s.heap := by rw [← ew7]; exact hP
        have hD : va_D A (fl [(wO kC ad td rn pn an jn tn bm fw gp ga bp fc fj (if (rn < 6 ∧ inI 0 1000 x ∧ inL 0 100000 v ∧ (rn = 0 ∨ rA (rn - 1) < nOf x)) then updN rA rn (nOf x) else rA) rC ft kd aG sR sT wh dY pd cN mN sv nd wr tl lt lT lD gv gn od br)]) := by rw [← ew7]; exact hD
        have ew8 : rC = (if (rn < 6 ∧ inI 0 1000 x ∧ inL 0 100000 v ∧ (rn = 0 ∨ rA (rn - 1) < nOf x)) then updN rC rn (nOfL v) else rC) := (if_neg hC).symm
        have hP : va_P D cls (fl [(wO kC ad td rn pn an jn tn bm fw gp ga bp fc fj (if (rn < 6 ∧ inI 0 1000 x ∧ inL 0 100000 v ∧ (rn = 0 ∨ rA (rn - 1) < nOf x)) then updN rA rn (nOf x) else rA) (if (rn < 6 ∧ inI 0 1000 x ∧ inL 0 100000 v ∧ (rn = 0 ∨ rA (rn - 1) < nOf x)) then updN rC rn (nOfL v) else rC) ft kd aG sR sT wh dY pd cN mN sv nd wr tl lt lT lD gv gn od br)]) s.heap := by rw [← ew8]; exact hP
        have hD : va_D A (fl [(wO kC ad td rn pn an jn tn bm fw gp ga bp fc fj (if (rn < 6 ∧ inI 0 1000 x ∧ inL 0 100000 v ∧ (rn = 0 ∨ rA (rn - 1) < nOf x)) then updN rA rn (nOf x) else rA) (if (rn < 6 ∧ inI 0 1000 x ∧ inL 0 100000 v ∧ (rn = 0 ∨ rA (rn - 1) < nOf x)) then updN rC rn (nOfL v) else rC) ft kd aG sR sT wh dY pd cN mN sv nd wr tl lt lT lD gv gn od br)]) := by rw [← ew8]; exact hD
        have ew9 : rn = (if (rn < 6 ∧ inI 0 1000 x ∧ inL 0 100000 v ∧ (rn = 0 ∨ rA (rn - 1) < nOf x)) then rn + 1 else rn) := (if_neg hC).symm
        have hP : va_P D cls (fl [(wO kC ad td (if (rn < 6 ∧ inI 0 1000 x ∧ inL 0 100000 v ∧ (rn = 0 ∨ rA (rn - 1) < nOf x)) then rn + 1 else rn) pn an jn tn bm fw gp ga bp fc fj (if (rn < 6 ∧ inI 0 1000 x ∧ inL 0 100000 v ∧ (rn = 0 ∨ rA (rn - 1) < nOf x)) then updN rA rn (nOf x) else rA) (if (rn < 6 ∧ inI 0 1000 x ∧ inL 0 100000 v ∧ (rn = 0 ∨ rA (rn - 1) < nOf x)) then updN rC rn (nOfL v) else rC) ft kd aG sR sT wh dY pd cN mN sv nd wr tl lt lT lD gv gn od br)]) s.heap := by rw [← ew9]; exact hP
        have hD : va_D A (fl [(wO kC ad td (if (rn < 6 ∧ inI 0 1000 x ∧ inL 0 100000 v ∧ (rn = 0 ∨ rA (rn - 1) < nOf x)) then rn + 1 else rn) pn an jn tn bm fw gp ga bp fc fj (if (rn < 6 ∧ inI 0 1000 x ∧ inL 0 100000 v ∧ (rn = 0 ∨ rA (rn - 1) < nOf x)) then updN rA rn (nOf x) else rA) (if (rn < 6 ∧ inI 0 1000 x ∧ inL 0 100000 v ∧ (rn = 0 ∨ rA (rn - 1) < nOf x)) then updN rC rn (nOfL v) else rC) ft kd aG sR sT wh dY pd cN mN sv nd wr tl lt lT lD gv gn od br)]) := by rw [← ew9]; exact hD
        exact W.zret (v := nI 0) hx hb hr (nar_b (by first | exact Or.inl rfl | exact Or.inr rfl | exact bI_01)) (fun t ht hW => by subst hAe; exact ⟨⟨(nI 0), (), rfl, (bI_f hC).symm, by rw [ht]; exact hP, va_K.moved hW.alike hK, hD⟩, hS.F ht⟩) (by subst hAe; exact hS.2.2) d_O_row_55
      · have h3 := bI_n0.mp h3
        obtain ⟨j, hj1, hj2, rfl⟩ := inI_n (by decide) h2
        obtain ⟨k, hk1, hk2, rfl⟩ := inL_n (by decide) h3
        refine lv_aload_n hx hb d_O_row_32 rfl (lv_at hl 0 rfl) ?_
        refine fv_get (ci := 7) (v := .int (nI rn)) (C := R_O) (T := F_O) (N := 36) hx hb hts (by decide +kernel) hown hK hP 0 0 rfl rfl rfl 1 (by decide) (hts (.fieldLink R_O 97 "PartShelvesModel" "rows" "I") (by decide +kernel)) (fun _ h9 => h9) rfl d_O_row_33 ?_
        refine nv_if_le (tgt := 56) hx hb d_O_row_36 (by decide) (by omega) (fun h4 => ?_) (fun h4 => ?_)
        · have hC : (rn < 6 ∧ inI 0 1000 (nI j) ∧ inL 0 100000 (lN k) ∧ (rn = 0 ∨ rA (rn - 1) < nOf (nI j))) := ⟨by omega, h2, h3, by first | (left; omega) | (right; rw [nOf_nI (by omega)]; omega)⟩
          refine lv_aload_n hx hb d_O_row_56 rfl (lv_at hl 0 rfl) ?_
          refine fv_get (ci := 7) (v := .ref (ad 1)) (C := R_O) (T := F_O) (N := 36) hx hb hts (by decide +kernel) hown hK hP 0 0 rfl rfl rfl 2 (by decide) (hts (.fieldLink R_O 7 "PartShelvesModel" "rowAges" "[I") (by decide +kernel)) (fun _ h9 => h9) rfl d_O_row_57 ?_
          refine lv_aload_n hx hb d_O_row_60 rfl (lv_at hl 0 rfl) ?_
          refine fv_get (ci := 7) (v := .int (nI rn)) (C := R_O) (T := F_O) (N := 36) hx hb hts (by decide +kernel) hown hK hP 0 0 rfl rfl rfl 1 (by decide) (hts (.fieldLink R_O 97 "PartShelvesModel" "rows" "I") (by decide +kernel)) (fun _ h9 => h9) rfl d_O_row_61 ?_
          refine lv_iload_n hx hb d_O_row_64 rfl (lv_at hl 1 rfl) ?_
          refine fa_iastN hx hb hK hP hD hS 0 1 0 rfl rfl rfl (by omega) (by decide) d_O_row_65 (fun H locs hP hD hS => ?_)
          have hP : va_P D cls (fl [(wO kC ad td rn pn an jn tn bm fw gp ga bp fc fj (updN rA rn j) rC ft kd aG sR sT wh dY pd cN mN sv nd wr tl lt lT lD gv gn od br)]) H := hP
          have hD : va_D A (fl [(wO kC ad td rn pn an jn tn bm fw gp ga bp fc fj (updN rA rn j) rC ft kd aG sR sT wh dY pd cN mN sv nd wr tl lt lT lD gv gn od br)]) := hD
          refine lv_aload_n hx hb d_O_row_66 rfl (lv_at hl 0 rfl) ?_
          refine fv_get (ci := 7) (v := .ref (ad 2)) (C := R_O) (T := F_O) (N := 36) hx hb hts (by decide +kernel) hown hK hP 0 0 rfl rfl rfl 3 (by decide) (hts (.fieldLink R_O 13 "PartShelvesModel" "rowCents" "[J") (by decide +kernel)) (fun _ h9 => h9) rfl d_O_row_67 ?_
          refine lv_aload_n hx hb d_O_row_70 rfl (lv_at hl 0 rfl) ?_
          refine fv_get (ci := 7) (v := .int (nI rn)) (C := R_O) (T := F_O) (N := 36) hx hb hts (by decide +kernel) hown hK hP 0 0 rfl rfl rfl 1 (by decide) (hts (.fieldLink R_O 97 "PartShelvesModel" "rows" "I") (by decide +kernel)) (fun _ h9 => h9) rfl d_O_row_71 ?_
          refine lv_lload_n hx hb d_O_row_74 rfl (lv_at hl 2 rfl) ?_
          refine fa_lastN hx hb hK hP hD hS 0 2 1 rfl rfl rfl (by omega) (by decide) d_O_row_75 (fun H locs hP hD hS => ?_)
          have hP : va_P D cls (fl [(wO kC ad td rn pn an jn tn bm fw gp ga bp fc fj (updN rA rn j) (updN rC rn k) ft kd aG sR sT wh dY pd cN mN sv nd wr tl lt lT lD gv gn od br)]) H := hP
          have hD : va_D A (fl [(wO kC ad td rn pn an jn tn bm fw gp ga bp fc fj (updN rA rn j) (updN rC rn k) ft kd aG sR sT wh dY pd cN mN sv nd wr tl lt lT lD gv gn od br)]) := hD
          refine lv_aload_n hx hb d_O_row_76 rfl (lv_at hl 0 rfl) ?_
          refine lv_dup hx hb d_O_row_77 rfl ?_
          refine fv_get (ci := 7) (v := .int (nI rn)) (C := R_O) (T := F_O) (N := 36) hx hb hts (by decide +kernel) hown hK hP 0 0 rfl rfl rfl 1 (by decide) (hts (.fieldLink R_O 97 "PartShelvesModel" "rows" "I") (by decide +kernel)) (fun _ h9 => h9) rfl d_O_row_78 ?_
          refine lv_iconst (v := nI 1) hx hb d_O_row_81 (by decide) ?_
          refine nv_iadd hx hb d_O_row_82 ?_
          refine fv_put (ci := 7) (v := .int (nI (rn + 1))) (ty := (.int)) (C := R_O) (T := F_O) (N := 36) hx hb hts (by decide +kernel) t_O t_O_ok n_O hown hK hP hD hS 0 0 rfl rfl rfl 1 (by decide) (hts (.fieldLink R_O 97 "PartShelvesModel" "rows" "I") (by decide +kernel)) (fun _ h9 => h9) rfl (by decide +kernel) (rfl) (rfl) (Nat.le_of_ble_eq_true rfl) d_O_row_83 (fun H locs hP hD hS => ?_)
          have hP : va_P D cls (fl [(wO kC ad td (rn + 1) pn an jn tn bm fw gp ga bp fc fj (updN rA rn j) (updN rC rn k) ft kd aG sR sT wh dY pd cN mN sv nd wr tl lt lT lD gv gn od br)]) H := hP
          have hD : va_D A (fl [(wO kC ad td (rn + 1) pn an jn tn bm fw gp ga bp fc fj (updN rA rn j) (updN rC rn k) ft kd aG sR sT wh dY pd cN mN sv nd wr tl lt lT lD gv gn od br)]) := hD
          refine lv_iconst (v := nI 1) hx hb d_O_row_86 (by decide) ?_
          have ew10 : (updN rA rn j) = (if (rn < 6 ∧ inI 0 1000 (nI j) ∧ inL 0 100000 (lN k) ∧ (rn = 0 ∨ rA (rn - 1) < nOf (nI j))) then updN rA rn (nOf (nI j)) else rA) := by rw [if_pos hC, nOf_nI (by omega)]
          have hP : va_P D cls (fl [(wO kC ad td (rn + 1) pn an jn tn bm fw gp ga bp fc fj (if (rn < 6 ∧ inI 0 1000 (nI j) ∧ inL 0 100000 (lN k) ∧ (rn = 0 ∨ rA (rn - 1) < nOf (nI j))) then updN rA rn (nOf (nI j)) else rA) (updN rC rn k) ft kd aG sR sT wh dY pd cN mN sv nd wr tl lt lT lD gv gn od br)]) H := by rw [← ew10]; exact hP
          have hD : va_D A (fl [(wO kC ad td (rn + 1) pn an jn tn bm fw gp ga bp fc fj (if (rn < 6 ∧ inI 0 1000 (nI j) ∧ inL 0 100000 (lN k) ∧ (rn = 0 ∨ rA (rn - 1) < nOf (nI j))) then updN rA rn (nOf (nI j)) else rA) (updN rC rn k) ft kd aG sR sT wh dY pd cN mN sv nd wr tl lt lT lD gv gn od br)]) := by rw [← ew10]; exact hD
          have ew11 : (updN rC rn k) = (if (rn < 6 ∧ inI 0 1000 (nI j) ∧ inL 0 100000 (lN k) ∧ (rn = 0 ∨ rA (rn - 1) < nOf (nI j))) then updN rC rn (nOfL (lN k)) else rC) := by rw [if_pos hC, nOfL_lN (by omega)]
          have hP : va_P D cls (fl [(wO kC ad td (rn + 1) pn an jn tn bm fw gp ga bp fc fj (if (rn < 6 ∧ inI 0 1000 (nI j) ∧ inL 0 100000 (lN k) ∧ (rn = 0 ∨ rA (rn - 1) < nOf (nI j))) then updN rA rn (nOf (nI j)) else rA) (if (rn < 6 ∧ inI 0 1000 (nI j) ∧ inL 0 100000 (lN k) ∧ (rn = 0 ∨ rA (rn - 1) < nOf (nI j))) then updN rC rn (nOfL (lN k)) else rC) ft kd aG sR sT wh dY pd cN mN sv nd wr tl lt lT lD gv gn od br)]) H := by rw [← ew11]; exact hP
          have hD : va_D A (fl [(wO kC ad td (rn + 1) pn an jn tn bm fw gp ga bp fc fj (if (rn < 6 ∧ inI 0 1000 (nI j) ∧ inL 0 100000 (lN k) ∧ (rn = 0 ∨ rA (rn - 1) < nOf (nI j))) then updN rA rn (nOf (nI j)) else rA) (if (rn < 6 ∧ inI 0 1000 (nI j) ∧ inL 0 100000 (lN k) ∧ (rn = 0 ∨ rA (rn - 1) < nOf (nI j))) then updN rC rn (nOfL (lN k)) else rC) ft kd aG sR sT wh dY pd cN mN sv nd wr tl lt lT lD gv gn od br)]) := by rw [← ew11]; exact hD
          have ew12 : (rn + 1) = (if (rn < 6 ∧ inI 0 1000 (nI j) ∧ inL 0 100000 (lN k) ∧ (rn = 0 ∨ rA (rn - 1) < nOf (nI j))) then rn + 1 else rn) := by rw [if_pos hC]
          have hP : va_P D cls (fl [(wO kC ad td (if (rn < 6 ∧ inI 0 1000 (nI j) ∧ inL 0 100000 (lN k) ∧ (rn = 0 ∨ rA (rn - 1) < nOf (nI j))) then rn + 1 else rn) pn an jn tn bm fw gp ga bp fc fj (if (rn < 6 ∧ inI 0 1000 (nI j) ∧ inL 0 100000 (lN k) ∧ (rn = 0 ∨ rA (rn - 1) < nOf (nI j))) then updN rA rn (nOf (nI j)) else rA) (if (rn < 6 ∧ inI 0 1000 (nI j) ∧ inL 0 100000 (lN k) ∧ (rn = 0 ∨ rA (rn - 1) < nOf (nI j))) then updN rC rn (nOfL (lN k)) else rC) ft kd aG sR sT wh dY pd cN mN sv nd wr tl lt lT lD gv gn od br)]) H := by rw [← ew12]; exact hP
          have hD : va_D A (fl [(wO kC ad td (if (rn < 6 ∧ inI 0 1000 (nI j) ∧ inL 0 100000 (lN k) ∧ (rn = 0 ∨ rA (rn - 1) < nOf (nI j))) then rn + 1 else rn) pn an jn tn bm fw gp ga bp fc fj (if (rn < 6 ∧ inI 0 1000 (nI j) ∧ inL 0 100000 (lN k) ∧ (rn = 0 ∨ rA (rn - 1) < nOf (nI j))) then updN rA rn (nOf (nI j)) else rA) (if (rn < 6 ∧ inI 0 1000 (nI j) ∧ inL 0 100000 (lN k) ∧ (rn = 0 ∨ rA (rn - 1) < nOf (nI j))) then updN rC rn (nOfL (lN k)) else rC) ft kd aG sR sT wh dY pd cN mN sv nd wr tl lt lT lD gv gn od br)]) := by rw [← ew12]; exact hD
          exact W.zret (v := nI 1) hx hb hr (nar_b (by first | exact Or.inl rfl | exact Or.inr rfl | exact bI_01)) (fun t ht hW => by subst hAe; exact ⟨⟨(nI 1), (), rfl, (bI_t hC).symm, by rw [ht]; exact hP, va_K.moved hW.alike hK, hD⟩, hS.F ht⟩) (by subst hAe; exact hS.2.2) d_O_row_87
        · refine lv_iload_n hx hb d_O_row_39 rfl (lv_at hl 1 rfl) ?_
          refine lv_aload_n hx hb d_O_row_40 rfl (lv_at hl 0 rfl) ?_
          refine fv_get (ci := 7) (v := .ref (ad 1)) (C := R_O) (T := F_O) (N := 36) hx hb hts (by decide +kernel) hown hK hP 0 0 rfl rfl rfl 2 (by decide) (hts (.fieldLink R_O 7 "PartShelvesModel" "rowAges" "[I") (by decide +kernel)) (fun _ h9 => h9) rfl d_O_row_41 ?_
          refine lv_aload_n hx hb d_O_row_44 rfl (lv_at hl 0 rfl) ?_
          refine fv_get (ci := 7) (v := .int (nI rn)) (C := R_O) (T := F_O) (N := 36) hx hb hts (by decide +kernel) hown hK hP 0 0 rfl rfl rfl 1 (by decide) (hts (.fieldLink R_O 97 "PartShelvesModel" "rows" "I") (by decide +kernel)) (fun _ h9 => h9) rfl d_O_row_45 ?_
          refine lv_iconst (v := nI 1) hx hb d_O_row_48 (by decide) ?_
          refine nv_isub hx hb d_O_row_49 (by omega) ?_
          refine fa_ialdN hx hb hK hP 0 1 0 rfl rfl rfl (by omega) (by decide) d_O_row_50 ?_
          refine nv_icmp_gt (tgt := 56) hx hb d_O_row_51 (by decide) (by omega) (by have := hrA (rn - 1); omega) (fun h5 => ?_) (fun h5 => ?_)
          · have hC : (rn < 6 ∧ inI 0 1000 (nI j) ∧ inL 0 100000 (lN k) ∧ (rn = 0 ∨ rA (rn - 1) < nOf (nI j))) := ⟨by omega, h2, h3, by first | (left; omega) | (right; rw [nOf_nI (by omega)]; omega)⟩
            refine lv_aload_n hx hb d_O_row_56 rfl (lv_at hl 0 rfl) ?_
            refine fv_get (ci := 7) (v := .ref (ad 1)) (C := R_O) (T := F_O) (N := 36) hx hb hts (by decide +kernel) hown hK hP 0 0 rfl rfl rfl 2 (by decide) (hts (.fieldLink R_O 7 "PartShelvesModel" "rowAges" "[I") (by decide +kernel)) (fun _ h9 => h9) rfl d_O_row_57 ?_
            refine lv_aload_n hx hb d_O_row_60 rfl (lv_at hl 0 rfl) ?_
            refine fv_get (ci := 7) (v := .int (nI rn)) (C := R_O) (T := F_O) (N := 36) hx hb hts (by decide +kernel) hown hK hP 0 0 rfl rfl rfl 1 (by decide) (hts (.fieldLink R_O 97 "PartShelvesModel" "rows" "I") (by decide +kernel)) (fun _ h9 => h9) rfl d_O_row_61 ?_
            refine lv_iload_n hx hb d_O_row_64 rfl (lv_at hl 1 rfl) ?_
            refine fa_iastN hx hb hK hP hD hS 0 1 0 rfl rfl rfl (by omega) (by decide) d_O_row_65 (fun H locs hP hD hS => ?_)
            have hP : va_P D cls (fl [(wO kC ad td rn pn an jn tn bm fw gp ga bp fc fj (updN rA rn j) rC ft kd aG sR sT wh dY pd cN mN sv nd wr tl lt lT lD gv gn od br)]) H := hP
            have hD : va_D A (fl [(wO kC ad td rn pn an jn tn bm fw gp ga bp fc fj (updN rA rn j) rC ft kd aG sR sT wh dY pd cN mN sv nd wr tl lt lT lD gv gn od br)]) := hD
            refine lv_aload_n hx hb d_O_row_66 rfl (lv_at hl 0 rfl) ?_
            refine fv_get (ci := 7) (v := .ref (ad 2)) (C := R_O) (T := F_O) (N := 36) hx hb hts (by decide +kernel) hown hK hP 0 0 rfl rfl rfl 3 (by decide) (hts (.fieldLink R_O 13 "PartShelvesModel" "rowCents" "[J") (by decide +kernel)) (fun _ h9 => h9) rfl d_O_row_67 ?_
            refine lv_aload_n hx hb d_O_row_70 rfl (lv_at hl 0 rfl) ?_
            refine fv_get (ci := 7) (v := .int (nI rn)) (C := R_O) (T := F_O) (N := 36) hx hb hts (by decide +kernel) hown hK hP 0 0 rfl rfl rfl 1 (by decide) (hts (.fieldLink R_O 97 "PartShelvesModel" "rows" "I") (by decide +kernel)) (fun _ h9 => h9) rfl d_O_row_71 ?_
            refine lv_lload_n hx hb d_O_row_74 rfl (lv_at hl 2 rfl) ?_
            refine fa_lastN hx hb hK hP hD hS 0 2 1 rfl rfl rfl (by omega) (by decide) d_O_row_75 (fun H locs hP hD hS => ?_)
            have hP : va_P D cls (fl [(wO kC ad td rn pn an jn tn bm fw gp ga bp fc fj (updN rA rn j) (updN rC rn k) ft kd aG sR sT wh dY pd cN mN sv nd wr tl lt lT lD gv gn od br)]) H := hP
            have hD : va_D A (fl [(wO kC ad td rn pn an jn tn bm fw gp ga bp fc fj (updN rA rn j) (updN rC rn k) ft kd aG sR sT wh dY pd cN mN sv nd wr tl lt lT lD gv gn od br)]) := hD
            refine lv_aload_n hx hb d_O_row_76 rfl (lv_at hl 0 rfl) ?_
            refine lv_dup hx hb d_O_row_77 rfl ?_
            refine fv_get (ci := 7) (v := .int (nI rn)) (C := R_O) (T := F_O) (N := 36) hx hb hts (by decide +kernel) hown hK hP 0 0 rfl rfl rfl 1 (by decide) (hts (.fieldLink R_O 97 "PartShelvesModel" "rows" "I") (by decide +kernel)) (fun _ h9 => h9) rfl d_O_row_78 ?_
            refine lv_iconst (v := nI 1) hx hb d_O_row_81 (by decide) ?_
            refine nv_iadd hx hb d_O_row_82 ?_
            refine fv_put (ci := 7) (v := .int (nI (rn + 1))) (ty := (.int)) (C := R_O) (T := F_O) (N := 36) hx hb hts (by decide +kernel) t_O t_O_ok n_O hown hK hP hD hS 0 0 rfl rfl rfl 1 (by decide) (hts (.fieldLink R_O 97 "PartShelvesModel" "rows" "I") (by decide +kernel)) (fun _ h9 => h9) rfl (by decide +kernel) (rfl) (rfl) (Nat.le_of_ble_eq_true rfl) d_O_row_83 (fun H locs hP hD hS => ?_)
            have hP : va_P D cls (fl [(wO kC ad td (rn + 1) pn an jn tn bm fw gp ga bp fc fj (updN rA rn j) (updN rC rn k) ft kd aG sR sT wh dY pd cN mN sv nd wr tl lt lT lD gv gn od br)]) H := hP
            have hD : va_D A (fl [(wO kC ad td (rn + 1) pn an jn tn bm fw gp ga bp fc fj (updN rA rn j) (updN rC rn k) ft kd aG sR sT wh dY pd cN mN sv nd wr tl lt lT lD gv gn od br)]) := hD
            refine lv_iconst (v := nI 1) hx hb d_O_row_86 (by decide) ?_
            have ew13 : (updN rA rn j) = (if (rn < 6 ∧ inI 0 1000 (nI j) ∧ inL 0 100000 (lN k) ∧ (rn = 0 ∨ rA (rn - 1) < nOf (nI j))) then updN rA rn (nOf (nI j)) else rA) := by rw [if_pos hC, nOf_nI (by omega)]
            have hP : va_P D cls (fl [(wO kC ad td (rn + 1) pn an jn tn bm fw gp ga bp fc fj (if (rn < 6 ∧ inI 0 1000 (nI j) ∧ inL 0 100000 (lN k) ∧ (rn = 0 ∨ rA (rn - 1) < nOf (nI j))) then updN rA rn (nOf (nI j)) else rA) (updN rC rn k) ft kd aG sR sT wh dY pd cN mN sv nd wr tl lt lT lD gv gn od br)]) H := by rw [← ew13]; exact hP
            have hD : va_D A (fl [(wO kC ad td (rn + 1) pn an jn tn bm fw gp ga bp fc fj (if (rn < 6 ∧ inI 0 1000 (nI j) ∧ inL 0 100000 (lN k) ∧ (rn = 0 ∨ rA (rn - 1) < nOf (nI j))) then updN rA rn (nOf (nI j)) else rA) (updN rC rn k) ft kd aG sR sT wh dY pd cN mN sv nd wr tl lt lT lD gv gn od br)]) := by rw [← ew13]; exact hD
            have ew14 : (updN rC rn k) = (if (rn < 6 ∧ inI 0 1000 (nI j) ∧ inL 0 100000 (lN k) ∧ (rn = 0 ∨ rA (rn - 1) < nOf (nI j))) then updN rC rn (nOfL (lN k)) else rC) := by rw [if_pos hC, nOfL_lN (by omega)]
            have hP : va_P D cls (fl [(wO kC ad td (rn + 1) pn an jn tn bm fw gp ga bp fc fj (if (rn < 6 ∧ inI 0 1000 (nI j) ∧ inL 0 100000 (lN k) ∧ (rn = 0 ∨ rA (rn - 1) < nOf (nI j))) then updN rA rn (nOf (nI j)) else rA) (if (rn < 6 ∧ inI 0 1000 (nI j) ∧ inL 0 100000 (lN k) ∧ (rn = 0 ∨ rA (rn - 1) < nOf (nI j))) then updN rC rn (nOfL (lN k)) else rC) ft kd aG sR sT wh dY pd cN mN sv nd wr tl lt lT lD gv gn od br)]) H := by rw [← ew14]; exact hP
            have hD : va_D A (fl [(wO kC ad td (rn + 1) pn an jn tn bm fw gp ga bp fc fj (if (rn < 6 ∧ inI 0 1000 (nI j) ∧ inL 0 100000 (lN k) ∧ (rn = 0 ∨ rA (rn - 1) < nOf (nI j))) then updN rA rn (nOf (nI j)) else rA) (if (rn < 6 ∧ inI 0 1000 (nI j) ∧ inL 0 100000 (lN k) ∧ (rn = 0 ∨ rA (rn - 1) < nOf (nI j))) then updN rC rn (nOfL (lN k)) else rC) ft kd aG sR sT wh dY pd cN mN sv nd wr tl lt lT lD gv gn od br)]) := by rw [← ew14]; exact hD
            have ew15 : (rn + 1) = (if (rn < 6 ∧ inI 0 1000 (nI j) ∧ inL 0 100000 (lN k) ∧ (rn = 0 ∨ rA (rn - 1) < nOf (nI j))) then rn + 1 else rn) := by rw [if_pos hC]
            have hP : va_P D cls (fl [(wO kC ad td (if (rn < 6 ∧ inI 0 1000 (nI j) ∧ inL 0 100000 (lN k) ∧ (rn = 0 ∨ rA (rn - 1) < nOf (nI j))) then rn + 1 else rn) pn an jn tn bm fw gp ga bp fc fj (if (rn < 6 ∧ inI 0 1000 (nI j) ∧ inL 0 100000 (lN k) ∧ (rn = 0 ∨ rA (rn - 1) < nOf (nI j))) then updN rA rn (nOf (nI j)) else rA) (if (rn < 6 ∧ inI 0 1000 (nI j) ∧ inL 0 100000 (lN k) ∧ (rn = 0 ∨ rA (rn - 1) < nOf (nI j))) then updN rC rn (nOfL (lN k)) else rC) ft kd aG sR sT wh dY pd cN mN sv nd wr tl lt lT lD gv gn od br)]) H := by rw [← ew15]; exact hP
            have hD : va_D A (fl [(wO kC ad td (if (rn < 6 ∧ inI 0 1000 (nI j) ∧ inL 0 100000 (lN k) ∧ (rn = 0 ∨ rA (rn - 1) < nOf (nI j))) then rn + 1 else rn) pn an jn tn bm fw gp ga bp fc fj (if (rn < 6 ∧ inI 0 1000 (nI j) ∧ inL 0 100000 (lN k) ∧ (rn = 0 ∨ rA (rn - 1) < nOf (nI j))) then updN rA rn (nOf (nI j)) else rA) (if (rn < 6 ∧ inI 0 1000 (nI j) ∧ inL 0 100000 (lN k) ∧ (rn = 0 ∨ rA (rn - 1) < nOf (nI j))) then updN rC rn (nOfL (lN k)) else rC) ft kd aG sR sT wh dY pd cN mN sv nd wr tl lt lT lD gv gn od br)]) := by rw [← ew15]; exact hD
            exact W.zret (v := nI 1) hx hb hr (nar_b (by first | exact Or.inl rfl | exact Or.inr rfl | exact bI_01)) (fun t ht hW => by subst hAe; exact ⟨⟨(nI 1), (), rfl, (bI_t hC).symm, by rw [ht]; exact hP, va_K.moved hW.alike hK, hD⟩, hS.F ht⟩) (by subst hAe; exact hS.2.2) d_O_row_87
          · have hC : ¬ (rn < 6 ∧ inI 0 1000 (nI j) ∧ inL 0 100000 (lN k) ∧ (rn = 0 ∨ rA (rn - 1) < nOf (nI j))) := fun q => by first | (have := q.1; omega) | exact absurd (inL_i.mpr q.2.1) (bI_0.mp h2) | exact absurd q.2.2.1 (bI_0.mp h3) | (rcases q.2.2.2 with q4 | q4; omega; rw [nOf_nI (by omega)] at q4; omega)
            refine lv_iconst (v := nI 0) hx hb d_O_row_54 (by decide) ?_
            have ew16 : rA = (if (rn < 6 ∧ inI 0 1000 (nI j) ∧ inL 0 100000 (lN k) ∧ (rn = 0 ∨ rA (rn - 1) < nOf (nI j))) then updN rA rn (nOf (nI j)) else rA) := (if_neg hC).symm
            have hP : va_P D cls (fl [(wO kC ad td rn pn an jn tn bm fw gp ga bp fc fj (if (rn < 6 ∧ inI 0 1000 (nI j) ∧ inL 0 100000 (lN k) ∧ (rn = 0 ∨ rA (rn - 1) < nOf (nI j))) then updN rA rn (nOf (nI j)) else rA) rC ft kd aG sR sT wh dY pd cN mN sv nd wr tl lt lT lD gv gn od br)]) s.heap := by rw [← ew16]; exact hP
            have hD : va_D A (fl [(wO kC ad td rn pn an jn tn bm fw gp ga bp fc fj (if (rn < 6 ∧ inI 0 1000 (nI j) ∧ inL 0 100000 (lN k) ∧ (rn = 0 ∨ rA (rn - 1) < nOf (nI j))) then updN rA rn (nOf (nI j)) else rA) rC ft kd aG sR sT wh dY pd cN mN sv nd wr tl lt lT lD gv gn od br)]) := by rw [← ew16]; exact hD
            have ew17 : rC = (if (rn < 6 ∧ inI 0 1000 (nI j) ∧ inL 0 100000 (lN k) ∧ (rn = 0 ∨ rA (rn - 1) < nOf (nI j))) then updN rC rn (nOfL (lN k)) else rC) := (if_neg hC).symm
            have hP : va_P D cls (fl [(wO kC ad td rn pn an jn tn bm fw gp ga bp fc fj (if (rn < 6 ∧ inI 0 1000 (nI j) ∧ inL 0 100000 (lN k) ∧ (rn = 0 ∨ rA (rn - 1) < nOf (nI j))) then updN rA rn (nOf (nI j)) else rA) (if (rn < 6 ∧ inI 0 1000 (nI j) ∧ inL 0 100000 (lN k) ∧ (rn = 0 ∨ rA (rn - 1) < nOf (nI j))) then updN rC rn (nOfL (lN k)) else rC) ft kd aG sR sT wh dY pd cN mN sv nd wr tl lt lT lD gv gn od br)]) s.heap := by rw [← ew17]; exact hP
            have hD : va_D A (fl [(wO kC ad td rn pn an jn tn bm fw gp ga bp fc fj (if (rn < 6 ∧ inI 0 1000 (nI j) ∧ inL 0 100000 (lN k) ∧ (rn = 0 ∨ rA (rn - 1) < nOf (nI j))) then updN rA rn (nOf (nI j)) else rA) (if (rn < 6 ∧ inI 0 1000 (nI j) ∧ inL 0 100000 (lN k) ∧ (rn = 0 ∨ rA (rn - 1) < nOf (nI j))) then updN rC rn (nOfL (lN k)) else rC) ft kd aG sR sT wh dY pd cN mN sv nd wr tl lt lT lD gv gn od br)]) := by rw [← ew17]; exact hD
            have ew18 : rn = (if (rn < 6 ∧ inI 0 1000 (nI j) ∧ inL 0 100000 (lN k) ∧ (rn = 0 ∨ rA (rn - 1) < nOf (nI j))) then rn + 1 else rn) := (if_neg hC).symm
            have hP : va_P D cls (fl [(wO kC ad td (if (rn < 6 ∧ inI 0 1000 (nI j) ∧ inL 0 100000 (lN k) ∧ (rn = 0 ∨ rA (rn - 1) < nOf (nI j))) then rn + 1 else rn) pn an jn tn bm fw gp ga bp fc fj (if (rn < 6 ∧ inI 0 1000 (nI j) ∧ inL 0 100000 (lN k) ∧ (rn = 0 ∨ rA (rn - 1) < nOf (nI j))) then updN rA rn (nOf (nI j)) else rA) (if (rn < 6 ∧ inI 0 1000 (nI j) ∧ inL 0 100000 (lN k) ∧ (rn = 0 ∨ rA (rn - 1) < nOf (nI j))) then updN rC rn (nOfL (lN k)) else rC) ft kd aG sR sT wh dY pd cN mN sv nd wr tl lt lT lD gv gn od br)]) s.heap := by rw [← ew18]; exact hP
            have hD : va_D A (fl [(wO kC ad td (if (rn < 6 ∧ inI 0 1000 (nI j) ∧ inL 0 100000 (lN k) ∧ (rn = 0 ∨ rA (rn - 1) < nOf (nI j))) then rn + 1 else rn) pn an jn tn bm fw gp ga bp fc fj (if (rn < 6 ∧ inI 0 1000 (nI j) ∧ inL 0 100000 (lN k) ∧ (rn = 0 ∨ rA (rn - 1) < nOf (nI j))) then updN rA rn (nOf (nI j)) else rA) (if (rn < 6 ∧ inI 0 1000 (nI j) ∧ inL 0 100000 (lN k) ∧ (rn = 0 ∨ rA (rn - 1) < nOf (nI j))) then updN rC rn (nOfL (lN k)) else rC) ft kd aG sR sT wh dY pd cN mN sv nd wr tl lt lT lD gv gn od br)]) := by rw [← ew18]; exact hD
            exact W.zret (v := nI 0) hx hb hr (nar_b (by first | exact Or.inl rfl | exact Or.inr rfl | exact bI_01)) (fun t ht hW => by subst hAe; exact ⟨⟨(nI 0), (), rfl, (bI_f hC).symm, by rw [ht]; exact hP, va_K.moved hW.alike hK, hD⟩, hS.F ht⟩) (by subst hAe; exact hS.2.2) d_O_row_55

abbrev b_O_fits : ByteArray := prog_9_method_10_code
def y_O_fits : MethodName := ⟨"PartShelvesModel", "fits", "(IIZ)Z"⟩
theorem d_O_fits_0 : decode b_O_fits 0 = .ok (.iload_n 1, 1) := by decide +kernel
theorem d_O_fits_1 : decode b_O_fits 1 = .ok (.invokestatic 102, 3) := by decide +kernel
theorem d_O_fits_4 : decode b_O_fits 4 = .ok (.ifCond .eq 10, 3) := by decide +kernel
theorem d_O_fits_7 : decode b_O_fits 7 = .ok (.iload_n 2, 1) := by decide +kernel
theorem d_O_fits_8 : decode b_O_fits 8 = .ok (.invokestatic 102, 3) := by decide +kernel
theorem d_O_fits_11 : decode b_O_fits 11 = .ok (.ifCond .ne 5, 3) := by decide +kernel
theorem d_O_fits_14 : decode b_O_fits 14 = .ok (.iconst 0, 1) := by decide +kernel
theorem d_O_fits_15 : decode b_O_fits 15 = .ok (.ireturn, 1) := by decide +kernel
theorem d_O_fits_16 : decode b_O_fits 16 = .ok (.aload_n 0, 1) := by decide +kernel
theorem d_O_fits_17 : decode b_O_fits 17 = .ok (.getfield 17, 3) := by decide +kernel
theorem d_O_fits_20 : decode b_O_fits 20 = .ok (.bipush 6, 2) := by decide +kernel
theorem d_O_fits_22 : decode b_O_fits 22 = .ok (.iload_n 1, 1) := by decide +kernel
theorem d_O_fits_23 : decode b_O_fits 23 = .ok (.imul, 1) := by decide +kernel
theorem d_O_fits_24 : decode b_O_fits 24 = .ok (.iload_n 2, 1) := by decide +kernel
theorem d_O_fits_25 : decode b_O_fits 25 = .ok (.iadd, 1) := by decide +kernel
theorem d_O_fits_26 : decode b_O_fits 26 = .ok (.iload_n 3, 1) := by decide +kernel
theorem d_O_fits_27 : decode b_O_fits 27 = .ok (.bastore, 1) := by decide +kernel
theorem d_O_fits_28 : decode b_O_fits 28 = .ok (.iconst 1, 1) := by decide +kernel
theorem d_O_fits_29 : decode b_O_fits 29 = .ok (.ireturn, 1) := by decide +kernel
def w_O_fits : List Cond := .code y_O_fits b_O_fits 4 (some .boolean) :: ([.methodLink "PartShelvesModel" 102 ⟨"PartShelvesModel", "isKind", "(I)Z"⟩, .static ⟨"PartShelvesModel", "isKind", "(I)Z"⟩, .initialized "PartShelvesModel", .code ⟨"PartShelvesModel", "isKind", "(I)Z"⟩ prog_9_method_4_code 1 (some .boolean), .fieldLink "PartShelvesModel" 17 "PartShelvesModel" "fits" "[Z"] ++ u_ws R_O F_O 36)
set_option maxRecDepth 20000 in
theorem g_O_fits_isKind : GoodIn w_O_fits (wsS R_O 102 y_O_isKind w_O_isKind) := goodIn_p _ [4] rfl (by decide +kernel)
set_option maxHeartbeats 4000000 in
set_option maxRecDepth 100000 in
theorem c_O_fits (l : Launch) (D : va_G) (kC : Nat → ClassId) (ad : Nat → Nat) (td : Nat) (rn : Nat) (pn : Nat) (an : Nat) (jn : Nat) (tn : Nat) (bm : Int32) (fw : Int64) (gp : Nat) (ga : Nat) (bp : Int32) (fc : Int64) (fj : Nat) (rA : Nat → Nat) (rC : Nat → Nat) (ft : Nat → Int32) (kd : Nat → Nat) (aG : Nat → Nat) (sR : Nat → Nat) (sT : Nat → Nat) (wh : Nat → Nat) (dY : Nat → Nat) (pd : Nat → Nat) (cN : Nat → Nat) (mN : Nat → Nat) (sv : Nat → Int32) (nd : Nat → Nat) (wr : Nat → Nat) (tl : Nat → Nat) (lt : Nat → Int32) (lT : Nat → Nat) (lD : Nat → Nat) (gv : Nat → Int32) (gn : Nat → Int64) (od : Nat → Nat) (br : Nat → Nat) (x : Int32) (y : Int32) (b : Int32) (sz : Nat) (hb01 : b = 0 ∨ b = 1) : Met l y_O_fits w_O_fits ({ frames := 1, cells := 0, slots := 0, locals := 20 } : Room) (gPre cls D (tyL kC) [.ref (ad 0), .int x, .int y, .int b] (fl [(wO kC ad td rn pn an jn tn bm fw gp ga bp fc fj rA rC ft kd aG sR sT wh dY pd cN mN sv nd wr tl lt lT lD gv gn od br)]) sz) (gQi cls D (tyL kC) (fl [(wO kC ad td rn pn an jn tn bm fw gp ga bp fc fj rA rC ft kd aG sR sT wh dY pd cN mN sv nd wr tl lt lT lD gv gn od br)]) sz (bI (inR x 6 ∧ inR y 6)) (fl [(wO kC ad td rn pn an jn tn bm fw gp ga bp fc fj rA rC (if (inR x 6 ∧ inR y 6) then upd ft (6 * nOf x + nOf y) b else ft) kd aG sR sT wh dY pd cN mN sv nd wr tl lt lT lD gv gn od br)])) 0 0 (va_A (fl [(wO kC ad td rn pn an jn tn bm fw gp ga bp fc fj rA rC ft kd aG sR sT wh dY pd cN mN sv nd wr tl lt lT lD gv gn od br)]) sz) := by
  refine Met.ofW (cc := b_O_fits) (maxL := 4) (ret := (some .boolean)) (by decide) rfl ?_
  intro p e s m args below meth c s₁ B hml hv
  obtain ⟨rfl, hsz, hP, hK, hD0⟩ := hv
  have hx := B.exec
  have hb := B.bytes
  have hr := B.returns
  have hts := atoms_spec (ws := w_O_fits) B.pre
  have hown : s.vm.findClass R_O = some m.cls := findClass_of_methodNamed B.named
  have hlocks := B.notSynchronized
  subst hsz
  obtain ⟨A, hAe⟩ : ∃ A : Nat → Prop, A = va_A (fl [(wO kC ad td rn pn an jn tn bm fw gp ga bp fc fj rA rC ft kd aG sR sT wh dY pd cN mN sv nd wr tl lt lT lD gv gn od br)]) s.heap.size := ⟨_, rfl⟩
  have hD : va_D A (fl [(wO kC ad td rn pn an jn tn bm fw gp ga bp fc fj rA rC ft kd aG sR sT wh dY pd cN mN sv nd wr tl lt lT lD gv gn od br)]) := by rw [hAe]; exact hD0.self
  have hA : ∀ q : Nat, s.heap.size ≤ q → A q := fun q h => by rw [hAe]; exact Or.inr h
  have hS : va_S A s.heap s.heap [] := va_S.rf
  have hl := lv_entry ([.ref (ad 0), .int x, .int y, .int b]) (n := 4) (Nat.le_of_ble_eq_true rfl)
  rw [lg_entry_eq]
  generalize (lg_sl ([.ref (ad 0), .int x, .int y, .int b]) ++ List.replicate (4 - (lg_sl ([.ref (ad 0), .int x, .int y, .int b])).length) Slot.unset).toArray = ls at hl ⊢
  have hl : lv_has ls 4 [(0, .ref (ad 0)), (1, .int x), (2, .int y), (3, .int b)] := hl
  refine lv_iload_n hx hb d_O_fits_0 rfl (lv_at hl 1 rfl) ?_
  refine r_calli (W.runS (As := [.int x]) (rest := []) ⟨hx, hb, hml, hown, hts⟩ (c_O_isKind l x) (cwS 1 hts g_O_fits_isKind rfl rfl rfl (by decide +kernel) ⟨Nat.le_of_ble_eq_true rfl, Nat.le_of_ble_eq_true rfl⟩) p0_preS rfl rfl hl.1 rfl (lv_room (Nat.le_of_ble_eq_true rfl)) d_O_fits_1 ⟨Nat.le_of_ble_eq_true rfl, Nat.le_of_ble_eq_true rfl⟩) ?_
  refine lv_if_eq (tgt := 14) hx hb d_O_fits_4 (by decide) (fun h1 => ?_) (fun h1 => ?_)
  · have hC : ¬ (inR x 6 ∧ inR y 6) := fun q => by first | exact absurd q.2 (bI_0.mp h2) | exact absurd q.1 (bI_0.mp h1)
    refine lv_iconst (v := nI 0) hx hb d_O_fits_14 (by decide) ?_
    have ew1 : ft = (if (inR x 6 ∧ inR y 6) then upd ft (6 * nOf x + nOf y) b else ft) := (if_neg hC).symm
    have hP : va_P D cls (fl [(wO kC ad td rn pn an jn tn bm fw gp ga bp fc fj rA rC (if (inR x 6 ∧ inR y 6) then upd ft (6 * nOf x + nOf y) b else ft) kd aG sR sT wh dY pd cN mN sv nd wr tl lt lT lD gv gn od br)]) s.heap := by rw [← ew1]; exact hP
    have hD : va_D A (fl [(wO kC ad td rn pn an jn tn bm fw gp ga bp fc fj rA rC (if (inR x 6 ∧ inR y 6) then upd ft (6 * nOf x + nOf y) b else ft) kd aG sR sT wh dY pd cN mN sv nd wr tl lt lT lD gv gn od br)]) := by rw [← ew1]; exact hD
    exact W.zret (v := nI 0) hx hb hr (nar_b (by first | exact Or.inl rfl | exact Or.inr rfl | exact bI_01)) (fun t ht hW => by subst hAe; exact ⟨⟨(nI 0), (), rfl, (bI_f hC).symm, by rw [ht]; exact hP, va_K.moved hW.alike hK, hD⟩, hS.F ht⟩) (by subst hAe; exact hS.2.2) d_O_fits_15
  · refine lv_iload_n hx hb d_O_fits_7 rfl (lv_at hl 2 rfl) ?_
    refine r_calli (W.runS (As := [.int y]) (rest := []) ⟨hx, hb, hml, hown, hts⟩ (c_O_isKind l y) (cwS 1 hts g_O_fits_isKind rfl rfl rfl (by decide +kernel) ⟨Nat.le_of_ble_eq_true rfl, Nat.le_of_ble_eq_true rfl⟩) p0_preS rfl rfl hl.1 rfl (lv_room (Nat.le_of_ble_eq_true rfl)) d_O_fits_8 ⟨Nat.le_of_ble_eq_true rfl, Nat.le_of_ble_eq_true rfl⟩) ?_
    refine lv_if_ne (tgt := 16) hx hb d_O_fits_11 (by decide) (fun h2 => ?_) (fun h2 => ?_)
    · have h1 := bI_n0.mp h1
      have h2 := bI_n0.mp h2
      have hC : inR x 6 ∧ inR y 6 := ⟨h1, h2⟩
      obtain ⟨j, hj, rfl⟩ := inR_n (by decide) h1
      obtain ⟨k, hk, rfl⟩ := inR_n (by decide) h2
      refine lv_aload_n hx hb d_O_fits_16 rfl (lv_at hl 0 rfl) ?_
      refine fv_get (ci := 7) (v := .ref (ad 3)) (C := R_O) (T := F_O) (N := 36) hx hb hts (by decide +kernel) hown hK hP 0 0 rfl rfl rfl 4 (by decide) (hts (.fieldLink R_O 17 "PartShelvesModel" "fits" "[Z") (by decide +kernel)) (fun _ h9 => h9) rfl d_O_fits_17 ?_
      refine lv_bipush (v := nI 6) hx hb d_O_fits_20 (by decide +kernel) ?_
      refine lv_iload_n hx hb d_O_fits_22 rfl (lv_at hl 1 rfl) ?_
      refine nv_imul hx hb d_O_fits_23 ?_
      refine lv_iload_n hx hb d_O_fits_24 rfl (lv_at hl 2 rfl) ?_
      refine nv_iadd hx hb d_O_fits_25 ?_
      refine lv_iload_n hx hb d_O_fits_26 rfl (lv_at hl 3 rfl) ?_
      refine fa_zast hx hb hK hP hD hS 0 3 2 rfl rfl rfl (hb01) (by omega) (by decide) d_O_fits_27 (fun H locs hP hD hS => ?_)
      have hP : va_P D cls (fl [(wO kC ad td rn pn an jn tn bm fw gp ga bp fc fj rA rC (upd ft (6 * j + k) b) kd aG sR sT wh dY pd cN mN sv nd wr tl lt lT lD gv gn od br)]) H := hP
      have hD : va_D A (fl [(wO kC ad td rn pn an jn tn bm fw gp ga bp fc fj rA rC (upd ft (6 * j + k) b) kd aG sR sT wh dY pd cN mN sv nd wr tl lt lT lD gv gn od br)]) := hD
      refine lv_iconst (v := nI 1) hx hb d_O_fits_28 (by decide) ?_
      have ew2 : (upd ft (6 * j + k) b) = (if (inR (nI j) 6 ∧ inR (nI k) 6) then upd ft (6 * nOf (nI j) + nOf (nI k)) b else ft) := by rw [if_pos hC, nOf_nI (by omega), nOf_nI (by omega)]
      have hP : va_P D cls (fl [(wO kC ad td rn pn an jn tn bm fw gp ga bp fc fj rA rC (if (inR (nI j) 6 ∧ inR (nI k) 6) then upd ft (6 * nOf (nI j) + nOf (nI k)) b else ft) kd aG sR sT wh dY pd cN mN sv nd wr tl lt lT lD gv gn od br)]) H := by rw [← ew2]; exact hP
      have hD : va_D A (fl [(wO kC ad td rn pn an jn tn bm fw gp ga bp fc fj rA rC (if (inR (nI j) 6 ∧ inR (nI k) 6) then upd ft (6 * nOf (nI j) + nOf (nI k)) b else ft) kd aG sR sT wh dY pd cN mN sv nd wr tl lt lT lD gv gn od br)]) := by rw [← ew2]; exact hD
      exact W.zret (v := nI 1) hx hb hr (nar_b (by first | exact Or.inl rfl | exact Or.inr rfl | exact bI_01)) (fun t ht hW => by subst hAe; exact ⟨⟨(nI 1), (), rfl, (bI_t hC).symm, by rw [ht]; exact hP, va_K.moved hW.alike hK, hD⟩, hS.F ht⟩) (by subst hAe; exact hS.2.2) d_O_fits_29
    · have hC : ¬ (inR x 6 ∧ inR y 6) := fun q => by first | exact absurd q.2 (bI_0.mp h2) | exact absurd q.1 (bI_0.mp h1)
      refine lv_iconst (v := nI 0) hx hb d_O_fits_14 (by decide) ?_
      have ew3 : ft = (if (inR x 6 ∧ inR y 6) then upd ft (6 * nOf x + nOf y) b else ft) := (if_neg hC).symm
      have hP : va_P D cls (fl [(wO kC ad td rn pn an jn tn bm fw gp ga bp fc fj rA rC (if (inR x 6 ∧ inR y 6) then upd ft (6 * nOf x + nOf y) b else ft) kd aG sR sT wh dY pd cN mN sv nd wr tl lt lT lD gv gn od br)]) s.heap := by rw [← ew3]; exact hP
      have hD : va_D A (fl [(wO kC ad td rn pn an jn tn bm fw gp ga bp fc fj rA rC (if (inR x 6 ∧ inR y 6) then upd ft (6 * nOf x + nOf y) b else ft) kd aG sR sT wh dY pd cN mN sv nd wr tl lt lT lD gv gn od br)]) := by rw [← ew3]; exact hD
      exact W.zret (v := nI 0) hx hb hr (nar_b (by first | exact Or.inl rfl | exact Or.inr rfl | exact bI_01)) (fun t ht hW => by subst hAe; exact ⟨⟨(nI 0), (), rfl, (bI_f hC).symm, by rw [ht]; exact hP, va_K.moved hW.alike hK, hD⟩, hS.F ht⟩) (by subst hAe; exact hS.2.2) d_O_fits_15

abbrev b_O_part : ByteArray := prog_9_method_11_code
def y_O_part : MethodName := ⟨"PartShelvesModel", "part", "(IIJ)I"⟩
theorem d_O_part_0 : decode b_O_part 0 = .ok (.aload_n 0, 1) := by decide +kernel
theorem d_O_part_1 : decode b_O_part 1 = .ok (.getfield 81, 3) := by decide +kernel
theorem d_O_part_4 : decode b_O_part 4 = .ok (.bipush 8, 2) := by decide +kernel
theorem d_O_part_6 : decode b_O_part 6 = .ok (.if_icmp .eq 33, 3) := by decide +kernel
theorem d_O_part_9 : decode b_O_part 9 = .ok (.iload_n 1, 1) := by decide +kernel
theorem d_O_part_10 : decode b_O_part 10 = .ok (.invokestatic 102, 3) := by decide +kernel
theorem d_O_part_13 : decode b_O_part 13 = .ok (.ifCond .eq 26, 3) := by decide +kernel
theorem d_O_part_16 : decode b_O_part 16 = .ok (.iload_n 2, 1) := by decide +kernel
theorem d_O_part_17 : decode b_O_part 17 = .ok (.i2l, 1) := by decide +kernel
theorem d_O_part_18 : decode b_O_part 18 = .ok (.lconst 0, 1) := by decide +kernel
theorem d_O_part_19 : decode b_O_part 19 = .ok (.ldc2_w 100, 3) := by decide +kernel
theorem d_O_part_22 : decode b_O_part 22 = .ok (.invokestatic 93, 3) := by decide +kernel
theorem d_O_part_25 : decode b_O_part 25 = .ok (.ifCond .eq 14, 3) := by decide +kernel
theorem d_O_part_28 : decode b_O_part 28 = .ok (.lload_n 3, 1) := by decide +kernel
theorem d_O_part_29 : decode b_O_part 29 = .ok (.lconst 0, 1) := by decide +kernel
theorem d_O_part_30 : decode b_O_part 30 = .ok (.ldc2_w 106, 3) := by decide +kernel
theorem d_O_part_33 : decode b_O_part 33 = .ok (.invokestatic 93, 3) := by decide +kernel
theorem d_O_part_36 : decode b_O_part 36 = .ok (.ifCond .ne 5, 3) := by decide +kernel
theorem d_O_part_39 : decode b_O_part 39 = .ok (.iconst (-1), 1) := by decide +kernel
theorem d_O_part_40 : decode b_O_part 40 = .ok (.ireturn, 1) := by decide +kernel
theorem d_O_part_41 : decode b_O_part 41 = .ok (.aload_n 0, 1) := by decide +kernel
theorem d_O_part_42 : decode b_O_part 42 = .ok (.getfield 21, 3) := by decide +kernel
theorem d_O_part_45 : decode b_O_part 45 = .ok (.aload_n 0, 1) := by decide +kernel
theorem d_O_part_46 : decode b_O_part 46 = .ok (.getfield 81, 3) := by decide +kernel
theorem d_O_part_49 : decode b_O_part 49 = .ok (.iload_n 1, 1) := by decide +kernel
theorem d_O_part_50 : decode b_O_part 50 = .ok (.iastore, 1) := by decide +kernel
theorem d_O_part_51 : decode b_O_part 51 = .ok (.aload_n 0, 1) := by decide +kernel
theorem d_O_part_52 : decode b_O_part 52 = .ok (.getfield 24, 3) := by decide +kernel
theorem d_O_part_55 : decode b_O_part 55 = .ok (.aload_n 0, 1) := by decide +kernel
theorem d_O_part_56 : decode b_O_part 56 = .ok (.getfield 81, 3) := by decide +kernel
theorem d_O_part_59 : decode b_O_part 59 = .ok (.iload_n 2, 1) := by decide +kernel
theorem d_O_part_60 : decode b_O_part 60 = .ok (.iastore, 1) := by decide +kernel
theorem d_O_part_61 : decode b_O_part 61 = .ok (.aload_n 0, 1) := by decide +kernel
theorem d_O_part_62 : decode b_O_part 62 = .ok (.getfield 27, 3) := by decide +kernel
theorem d_O_part_65 : decode b_O_part 65 = .ok (.aload_n 0, 1) := by decide +kernel
theorem d_O_part_66 : decode b_O_part 66 = .ok (.getfield 81, 3) := by decide +kernel
theorem d_O_part_69 : decode b_O_part 69 = .ok (.lload_n 3, 1) := by decide +kernel
theorem d_O_part_70 : decode b_O_part 70 = .ok (.lastore, 1) := by decide +kernel
theorem d_O_part_71 : decode b_O_part 71 = .ok (.aload_n 0, 1) := by decide +kernel
theorem d_O_part_72 : decode b_O_part 72 = .ok (.dup, 1) := by decide +kernel
theorem d_O_part_73 : decode b_O_part 73 = .ok (.getfield 81, 3) := by decide +kernel
theorem d_O_part_76 : decode b_O_part 76 = .ok (.iconst 1, 1) := by decide +kernel
theorem d_O_part_77 : decode b_O_part 77 = .ok (.iadd, 1) := by decide +kernel
theorem d_O_part_78 : decode b_O_part 78 = .ok (.putfield 81, 3) := by decide +kernel
theorem d_O_part_81 : decode b_O_part 81 = .ok (.aload_n 0, 1) := by decide +kernel
theorem d_O_part_82 : decode b_O_part 82 = .ok (.getfield 81, 3) := by decide +kernel
theorem d_O_part_85 : decode b_O_part 85 = .ok (.iconst 1, 1) := by decide +kernel
theorem d_O_part_86 : decode b_O_part 86 = .ok (.isub, 1) := by decide +kernel
theorem d_O_part_87 : decode b_O_part 87 = .ok (.ireturn, 1) := by decide +kernel
def w_O_part : List Cond := .code y_O_part b_O_part 5 (some .int) :: ([.fieldLink "PartShelvesModel" 81 "PartShelvesModel" "parts" "I", .methodLink "PartShelvesModel" 102 ⟨"PartShelvesModel", "isKind", "(I)Z"⟩, .static ⟨"PartShelvesModel", "isKind", "(I)Z"⟩, .initialized "PartShelvesModel", .code ⟨"PartShelvesModel", "isKind", "(I)Z"⟩ prog_9_method_4_code 1 (some .boolean), .constantLong "PartShelvesModel" 100 1000, .methodLink "PartShelvesModel" 93 ⟨"PartShelvesModel", "isIn", "(JJJ)Z"⟩, .static ⟨"PartShelvesModel", "isIn", "(JJJ)Z"⟩, .code ⟨"PartShelvesModel", "isIn", "(JJJ)Z"⟩ prog_9_method_3_code 6 (some .boolean), .constantLong "PartShelvesModel" 106 1000000000, .fieldLink "PartShelvesModel" 21 "PartShelvesModel" "kinds" "[I", .fieldLink "PartShelvesModel" 24 "PartShelvesModel" "ages" "[I", .fieldLink "PartShelvesModel" 27 "PartShelvesModel" "serials" "[J"] ++ u_ws R_O F_O 36)
set_option maxRecDepth 20000 in
theorem g_O_part_isKind : GoodIn w_O_part (wsS R_O 102 y_O_isKind w_O_isKind) := goodIn_p _ [5] rfl (by decide +kernel)
set_option maxRecDepth 20000 in
theorem g_O_part_isIn : GoodIn w_O_part (wsS R_O 93 y_O_isIn w_O_isIn) := goodIn_p _ [9] rfl (by decide +kernel)
set_option maxHeartbeats 4000000 in
set_option maxRecDepth 100000 in
theorem c_O_part (l : Launch) (D : va_G) (kC : Nat → ClassId) (ad : Nat → Nat) (td : Nat) (rn : Nat) (pn : Nat) (an : Nat) (jn : Nat) (tn : Nat) (bm : Int32) (fw : Int64) (gp : Nat) (ga : Nat) (bp : Int32) (fc : Int64) (fj : Nat) (rA : Nat → Nat) (rC : Nat → Nat) (ft : Nat → Int32) (kd : Nat → Nat) (aG : Nat → Nat) (sR : Nat → Nat) (sT : Nat → Nat) (wh : Nat → Nat) (dY : Nat → Nat) (pd : Nat → Nat) (cN : Nat → Nat) (mN : Nat → Nat) (sv : Nat → Int32) (nd : Nat → Nat) (wr : Nat → Nat) (tl : Nat → Nat) (lt : Nat → Int32) (lT : Nat → Nat) (lD : Nat → Nat) (gv : Nat → Int32) (gn : Nat → Int64) (od : Nat → Nat) (br : Nat → Nat) (x : Int32) (y : Int32) (v : Int64) (sz : Nat) (hpn : pn ≤ 8) : Met l y_O_part w_O_part ({ frames := 1, cells := 0, slots := 0, locals := 25 } : Room) (gPre cls D (tyL kC) [.ref (ad 0), .int x, .int y, .long v] (fl [(wO kC ad td rn pn an jn tn bm fw gp ga bp fc fj rA rC ft kd aG sR sT wh dY pd cN mN sv nd wr tl lt lT lD gv gn od br)]) sz) (gQi cls D (tyL kC) (fl [(wO kC ad td rn pn an jn tn bm fw gp ga bp fc fj rA rC ft kd aG sR sT wh dY pd cN mN sv nd wr tl lt lT lD gv gn od br)]) sz (if (pn < 8 ∧ inR x 6 ∧ inI 0 1000 y ∧ inL 0 1000000000 v) then nI pn else -1) (fl [(wO kC ad td rn (if (pn < 8 ∧ inR x 6 ∧ inI 0 1000 y ∧ inL 0 1000000000 v) then pn + 1 else pn) an jn tn bm fw gp ga bp fc fj rA rC ft (if (pn < 8 ∧ inR x 6 ∧ inI 0 1000 y ∧ inL 0 1000000000 v) then updN kd pn (nOf x) else kd) (if (pn < 8 ∧ inR x 6 ∧ inI 0 1000 y ∧ inL 0 1000000000 v) then updN aG pn (nOf y) else aG) (if (pn < 8 ∧ inR x 6 ∧ inI 0 1000 y ∧ inL 0 1000000000 v) then updN sR pn (nOfL v) else sR) sT wh dY pd cN mN sv nd wr tl lt lT lD gv gn od br)])) 0 0 (va_A (fl [(wO kC ad td rn pn an jn tn bm fw gp ga bp fc fj rA rC ft kd aG sR sT wh dY pd cN mN sv nd wr tl lt lT lD gv gn od br)]) sz) := by
  refine Met.ofW (cc := b_O_part) (maxL := 5) (ret := (some .int)) (by decide) rfl ?_
  intro p e s m args below meth c s₁ B hml hv
  obtain ⟨rfl, hsz, hP, hK, hD0⟩ := hv
  have hx := B.exec
  have hb := B.bytes
  have hr := B.returns
  have hts := atoms_spec (ws := w_O_part) B.pre
  have hown : s.vm.findClass R_O = some m.cls := findClass_of_methodNamed B.named
  have hlocks := B.notSynchronized
  subst hsz
  obtain ⟨A, hAe⟩ : ∃ A : Nat → Prop, A = va_A (fl [(wO kC ad td rn pn an jn tn bm fw gp ga bp fc fj rA rC ft kd aG sR sT wh dY pd cN mN sv nd wr tl lt lT lD gv gn od br)]) s.heap.size := ⟨_, rfl⟩
  have hD : va_D A (fl [(wO kC ad td rn pn an jn tn bm fw gp ga bp fc fj rA rC ft kd aG sR sT wh dY pd cN mN sv nd wr tl lt lT lD gv gn od br)]) := by rw [hAe]; exact hD0.self
  have hA : ∀ q : Nat, s.heap.size ≤ q → A q := fun q h => by rw [hAe]; exact Or.inr h
  have hS : va_S A s.heap s.heap [] := va_S.rf
  have hl := lv_entry ([.ref (ad 0), .int x, .int y, .long v]) (n := 5) (Nat.le_of_ble_eq_true rfl)
  rw [lg_entry_eq]
  generalize (lg_sl ([.ref (ad 0), .int x, .int y, .long v]) ++ List.replicate (5 - (lg_sl ([.ref (ad 0), .int x, .int y, .long v])).length) Slot.unset).toArray = ls at hl ⊢
  have hl : lv_has ls 5 [(0, .ref (ad 0)), (1, .int x), (2, .int y), (3, .long v)] := hl
  refine lv_aload_n hx hb d_O_part_0 rfl (lv_at hl 0 rfl) ?_
  refine fv_get (ci := 7) (v := .int (nI pn)) (C := R_O) (T := F_O) (N := 36) hx hb hts (by decide +kernel) hown hK hP 0 0 rfl rfl rfl 5 (by decide) (hts (.fieldLink R_O 81 "PartShelvesModel" "parts" "I") (by decide +kernel)) (fun _ h9 => h9) rfl d_O_part_1 ?_
  refine lv_bipush (v := nI 8) hx hb d_O_part_4 (by decide +kernel) ?_
  refine nv_icmp_eq (tgt := 39) hx hb d_O_part_6 (by decide) (by omega) (by omega) (fun h1 => ?_) (fun h1 => ?_)
  · have hC : ¬ (pn < 8 ∧ inR x 6 ∧ inI 0 1000 y ∧ inL 0 1000000000 v) := fun q => by first | exact absurd q.2.2.2 (bI_0.mp h4) | exact absurd (inL_i.mpr q.2.2.1) (bI_0.mp h3) | exact absurd q.2.1 (bI_0.mp h2) | (have := q.1; omega)
    refine lv_iconst (v := (-1)) hx hb d_O_part_39 (by decide) ?_
    have ew1 : kd = (if (pn < 8 ∧ inR x 6 ∧ inI 0 1000 y ∧ inL 0 1000000000 v) then updN kd pn (nOf x) else kd) := (if_neg hC).symm
    have hP : va_P D cls (fl [(wO kC ad td rn pn an jn tn bm fw gp ga bp fc fj rA rC ft (if (pn < 8 ∧ inR x 6 ∧ inI 0 1000 y ∧ inL 0 1000000000 v) then updN kd pn (nOf x) else kd) aG sR sT wh dY pd cN mN sv nd wr tl lt lT lD gv gn od br)]) s.heap := by rw [← ew1]; exact hP
    have hD : va_D A (fl [(wO kC ad td rn pn an jn tn bm fw gp ga bp fc fj rA rC ft (if (pn < 8 ∧ inR x 6 ∧ inI 0 1000 y ∧ inL 0 1000000000 v) then updN kd pn (nOf x) else kd) aG sR sT wh dY pd cN mN sv nd wr tl lt lT lD gv gn od br)]) := by rw [← ew1]; exact hD
    have ew2 : aG = (if (pn < 8 ∧ inR x 6 ∧ inI 0 1000 y ∧ inL 0 1000000000 v) then updN aG pn (nOf y) else aG) := (if_neg hC).symm
    have hP : va_P D cls (fl [(wO kC ad td rn pn an jn tn bm fw gp ga bp fc fj rA rC ft (if (pn < 8 ∧ inR x 6 ∧ inI 0 1000 y ∧ inL 0 1000000000 v) then updN kd pn (nOf x) else kd) (if (pn < 8 ∧ inR x 6 ∧ inI 0 1000 y ∧ inL 0 1000000000 v) then updN aG pn (nOf y) else aG) sR sT wh dY pd cN mN sv nd wr tl lt lT lD gv gn od br)]) s.heap := by rw [← ew2]; exact hP
    have hD : va_D A (fl [(wO kC ad td rn pn an jn tn bm fw gp ga bp fc fj rA rC ft (if (pn < 8 ∧ inR x 6 ∧ inI 0 1000 y ∧ inL 0 1000000000 v) then updN kd pn (nOf x) else kd) (if (pn < 8 ∧ inR x 6 ∧ inI 0 1000 y ∧ inL 0 1000000000 v) then updN aG pn (nOf y) else aG) sR sT wh dY pd cN mN sv nd wr tl lt lT lD gv gn od br)]) := by rw [← ew2]; exact hD
    have ew3 : sR = (if (pn < 8 ∧ inR x 6 ∧ inI 0 1000 y ∧ inL 0 1000000000 v) then updN sR pn (nOfL v) else sR) := (if_neg hC).symm
    have hP : va_P D cls (fl [(wO kC ad td rn pn an jn tn bm fw gp ga bp fc fj rA rC ft (if (pn < 8 ∧ inR x 6 ∧ inI 0 1000 y ∧ inL 0 1000000000 v) then updN kd pn (nOf x) else kd) (if (pn < 8 ∧ inR x 6 ∧ inI 0 1000 y ∧ inL 0 1000000000 v) then updN aG pn (nOf y) else aG) (if (pn < 8 ∧ inR x 6 ∧ inI 0 1000 y ∧ inL 0 1000000000 v) then updN sR pn (nOfL v) else sR) sT wh dY pd cN mN sv nd wr tl lt lT lD gv gn od br)]) s.heap := by rw [← ew3]; exact hP
    have hD : va_D A (fl [(wO kC ad td rn pn an jn tn bm fw gp ga bp fc fj rA rC ft (if (pn < 8 ∧ inR x 6 ∧ inI 0 1000 y ∧ inL 0 1000000000 v) then updN kd pn (nOf x) else kd) (if (pn < 8 ∧ inR x 6 ∧ inI 0 1000 y ∧ inL 0 1000000000 v) then updN aG pn (nOf y) else aG) (if (pn < 8 ∧ inR x 6 ∧ inI 0 1000 y ∧ inL 0 1000000000 v) then updN sR pn (nOfL v) else sR) sT wh dY pd cN mN sv nd wr tl lt lT lD gv gn od br)]) := by rw [← ew3]; exact hD
    have ew4 : pn = (if (pn < 8 ∧ inR x 6 ∧ inI 0 1000 y ∧ inL 0 1000000000 v) then pn + 1 else pn) := (if_neg hC).symm
    have hP : va_P D cls (fl [(wO kC ad td rn (if (pn < 8 ∧ inR x 6 ∧ inI 0 1000 y ∧ inL 0 1000000000 v) then pn + 1 else pn) an jn tn bm fw gp ga bp fc fj rA rC ft (if (pn < 8 ∧ inR x 6 ∧ inI 0 1000 y ∧ inL 0 1000000000 v) then updN kd pn (nOf x) else kd) (if (pn < 8 ∧ inR x 6 ∧ inI 0 1000 y ∧ inL 0 1000000000 v) then updN aG pn (nOf y) else aG) (if (pn < 8 ∧ inR x 6 ∧ inI 0 1000 y ∧ inL 0 1000000000 v) then updN sR pn (nOfL v) else sR) sT wh dY pd cN mN sv nd wr tl lt lT lD gv gn od br)]) s.heap := by rw [← ew4]; exact hP
    have hD : va_D A (fl [(wO kC ad td rn (if (pn < 8 ∧ inR x 6 ∧ inI 0 1000 y ∧ inL 0 1000000000 v) then pn + 1 else pn) an jn tn bm fw gp ga bp fc fj rA rC ft (if (pn < 8 ∧ inR x 6 ∧ inI 0 1000 y ∧ inL 0 1000000000 v) then updN kd pn (nOf x) else kd) (if (pn < 8 ∧ inR x 6 ∧ inI 0 1000 y ∧ inL 0 1000000000 v) then updN aG pn (nOf y) else aG) (if (pn < 8 ∧ inR x 6 ∧ inI 0 1000 y ∧ inL 0 1000000000 v) then updN sR pn (nOfL v) else sR) sT wh dY pd cN mN sv nd wr tl lt lT lD gv gn od br)]) := by rw [← ew4]; exact hD
    exact W.iret (v := (-1)) hx hb hr (fun t ht hW => by subst hAe; exact ⟨⟨(-1), (), rfl, (if_neg hC).symm, by rw [ht]; exact hP, va_K.moved hW.alike hK, hD⟩, hS.F ht⟩) (by subst hAe; exact hS.2.2) d_O_part_40
  · refine lv_iload_n hx hb d_O_part_9 rfl (lv_at hl 1 rfl) ?_
    refine r_calli (W.runS (As := [.int x]) (rest := []) ⟨hx, hb, hml, hown, hts⟩ (c_O_isKind l x) (cwS 1 hts g_O_part_isKind rfl rfl rfl (by decide +kernel) ⟨Nat.le_of_ble_eq_true rfl, Nat.le_of_ble_eq_true rfl⟩) p0_preS rfl rfl hl.1 rfl (lv_room (Nat.le_of_ble_eq_true rfl)) d_O_part_10 ⟨Nat.le_of_ble_eq_true rfl, Nat.le_of_ble_eq_true rfl⟩) ?_
    refine lv_if_eq (tgt := 39) hx hb d_O_part_13 (by decide) (fun h2 => ?_) (fun h2 => ?_)
    · have hC : ¬ (pn < 8 ∧ inR x 6 ∧ inI 0 1000 y ∧ inL 0 1000000000 v) := fun q => by first | exact absurd q.2.2.2 (bI_0.mp h4) | exact absurd (inL_i.mpr q.2.2.1) (bI_0.mp h3) | exact absurd q.2.1 (bI_0.mp h2) | (have := q.1; omega)
      refine lv_iconst (v := (-1)) hx hb d_O_part_39 (by decide) ?_
      have ew5 : kd = (if (pn < 8 ∧ inR x 6 ∧ inI 0 1000 y ∧ inL 0 1000000000 v) then updN kd pn (nOf x) else kd) := (if_neg hC).symm
      have hP : va_P D cls (fl [(wO kC ad td rn pn an jn tn bm fw gp ga bp fc fj rA rC ft (if (pn < 8 ∧ inR x 6 ∧ inI 0 1000 y ∧ inL 0 1000000000 v) then updN kd pn (nOf x) else kd) aG sR sT wh dY pd cN mN sv nd wr tl lt lT lD gv gn od br)]) s.heap := by rw [← ew5]; exact hP
      have hD : va_D A (fl [(wO kC ad td rn pn an jn tn bm fw gp ga bp fc fj rA rC ft (if (pn < 8 ∧ inR x 6 ∧ inI 0 1000 y ∧ inL 0 1000000000 v) then updN kd pn (nOf x) else kd) aG sR sT wh dY pd cN mN sv nd wr tl lt lT lD gv gn od br)]) := by rw [← ew5]; exact hD
      have ew6 : aG = (if (pn < 8 ∧ inR x 6 ∧ inI 0 1000 y ∧ inL 0 1000000000 v) then updN aG pn (nOf y) else aG) := (if_neg hC).symm
      have hP : va_P D cls (fl [(wO kC ad td rn pn an jn tn bm fw gp ga bp fc fj rA rC ft (if (pn < 8 ∧ inR x 6 ∧ inI 0 1000 y ∧ inL 0 1000000000 v) then updN kd pn (nOf x) else kd) (if (pn < 8 ∧ inR x 6 ∧ inI 0 1000 y ∧ inL 0 1000000000 v) then updN aG pn (nOf y) else aG) sR sT wh dY pd cN mN sv nd wr tl lt lT lD gv gn od br)]) s.heap := by rw [← ew6]; exact hP
      have hD : va_D A (fl [(wO kC ad td rn pn an jn tn bm fw gp ga bp fc fj rA rC ft (if (pn < 8 ∧ inR x 6 ∧ inI 0 1000 y ∧ inL 0 1000000000 v) then updN kd pn (nOf x) else kd) (if (pn < 8 ∧ inR x 6 ∧ inI 0 1000 y ∧ inL 0 1000000000 v) then updN aG pn (nOf y) else aG) sR sT wh dY pd cN mN sv nd wr tl lt lT lD gv gn od br)]) := by rw [← ew6]; exact hD
      have ew7 : sR = (if (pn < 8 ∧ inR x 6 ∧ inI 0 1000 y ∧ inL 0 1000000000 v) then updN sR pn (nOfL v) else sR) := (if_neg hC).symm
      have hP : va_P D cls (fl [(wO kC ad td rn pn an jn tn bm fw gp ga bp fc fj rA rC ft (if (pn < 8 ∧ inR x 6 ∧ inI 0 1000 y ∧ inL 0 1000000000 v) then updN kd pn (nOf x) else kd) (if (pn < 8 ∧ inR x 6 ∧ inI 0 1000 y ∧ inL 0 1000000000 v) then updN aG pn (nOf y) else aG) (if (pn < 8 ∧ inR x 6 ∧ inI 0 1000 y ∧ inL 0 1000000000 v) then updN sR pn (nOfL v) else sR) sT wh dY pd cN mN sv nd wr tl lt lT lD gv gn od br)]) s.heap := by rw [← ew7]; exact hP
      have hD : va_D A (fl [(wO kC ad td rn pn an jn tn bm fw gp ga bp fc fj rA rC ft (if (pn < 8 ∧ inR x 6 ∧ inI 0 1000 y ∧ inL 0 1000000000 v) then updN kd pn (nOf x) else kd) (if (pn < 8 ∧ inR x 6 ∧ inI 0 1000 y ∧ inL 0 1000000000 v) then updN aG pn (nOf y) else aG) (if (pn < 8 ∧ inR x 6 ∧ inI 0 1000 y ∧ inL 0 1000000000 v) then updN sR pn (nOfL v) else sR) sT wh dY pd cN mN sv nd wr tl lt lT lD gv gn od br)]) := by rw [← ew7]; exact hD
      have ew8 : pn = (if (pn < 8 ∧ inR x 6 ∧ inI 0 1000 y ∧ inL 0 1000000000 v) then pn + 1 else pn) := (if_neg hC).symm
      have hP : va_P D cls (fl [(wO kC ad td rn (if (pn < 8 ∧ inR x 6 ∧ inI 0 1000 y ∧ inL 0 1000000000 v) then pn + 1 else pn) an jn tn bm fw gp ga bp fc fj rA rC ft (if (pn < 8 ∧ inR x 6 ∧ inI 0 1000 y ∧ inL 0 1000000000 v) then updN kd pn (nOf x) else kd) (if (pn < 8 ∧ inR x 6 ∧ inI 0 1000 y ∧ inL 0 1000000000 v) then updN aG pn (nOf y) else aG) (if (pn < 8 ∧ inR x 6 ∧ inI 0 1000 y ∧ inL 0 1000000000 v) then updN sR pn (nOfL v) else sR) sT wh dY pd cN mN sv nd wr tl lt lT lD gv gn od br)]) s.heap := by rw [← ew8]; exact hP
      have hD : va_D A (fl [(wO kC ad td rn (if (pn < 8 ∧ inR x 6 ∧ inI 0 1000 y ∧ inL 0 1000000000 v) then pn + 1 else pn) an jn tn bm fw gp ga bp fc fj rA rC ft (if (pn < 8 ∧ inR x 6 ∧ inI 0 1000 y ∧ inL 0 1000000000 v) then updN kd pn (nOf x) else kd) (if (pn < 8 ∧ inR x 6 ∧ inI 0 1000 y ∧ inL 0 1000000000 v) then updN aG pn (nOf y) else aG) (if (pn < 8 ∧ inR x 6 ∧ inI 0 1000 y ∧ inL 0 1000000000 v) then updN sR pn (nOfL v) else sR) sT wh dY pd cN mN sv nd wr tl lt lT lD gv gn od br)]) := by rw [← ew8]; exact hD
      exact W.iret (v := (-1)) hx hb hr (fun t ht hW => by subst hAe; exact ⟨⟨(-1), (), rfl, (if_neg hC).symm, by rw [ht]; exact hP, va_K.moved hW.alike hK, hD⟩, hS.F ht⟩) (by subst hAe; exact hS.2.2) d_O_part_40
    · have h2 := bI_n0.mp h2
      refine lv_iload_n hx hb d_O_part_16 rfl (lv_at hl 2 rfl) ?_
      refine lv_i2l hx hb d_O_part_17 rfl ?_
      refine lv_lconst (v := lN 0) hx hb d_O_part_18 (by decide) ?_
      refine lv_ldc2 (v := 1000) hx hb hown (hts (.constantLong R_O 100 1000) (by decide +kernel)) d_O_part_19 ?_
      refine nv_topl (y := lN 1000) (by decide +kernel) ?_
      refine r_calli (W.runS (As := [.long y.toInt64, .long (lN 0), .long (lN 1000)]) (rest := []) ⟨hx, hb, hml, hown, hts⟩ (c_O_isIn l y.toInt64 0 1000 (by decide) (by decide)) (cwS 3 hts g_O_part_isIn rfl rfl rfl (by decide +kernel) ⟨Nat.le_of_ble_eq_true rfl, Nat.le_of_ble_eq_true rfl⟩) p0_preS rfl rfl hl.1 rfl (lv_room (Nat.le_of_ble_eq_true rfl)) d_O_part_22 ⟨Nat.le_of_ble_eq_true rfl, Nat.le_of_ble_eq_true rfl⟩) ?_
      refine lv_if_eq (tgt := 39) hx hb d_O_part_25 (by decide) (fun h3 => ?_) (fun h3 => ?_)
      · have hC : ¬ (pn < 8 ∧ inR x 6 ∧ inI 0 1000 y ∧ inL 0 1000000000 v) := fun q => by first | exact absurd q.2.2.2 (bI_0.mp h4) | exact absurd (inL_i.mpr q.2.2.1) (bI_0.mp h3) | exact absurd q.2.1 (bI_0.mp h2) | (have := q.1; omega)
        refine lv_iconst (v := (-1)) hx hb d_O_part_39 (by decide) ?_
        have ew9 : kd = (if (pn < 8 ∧ inR x 6 ∧ inI 0 1000 y ∧ inL 0 1000000000 v) then updN kd pn (nOf x) else kd) := (if_neg hC).symm
        have hP : va_P D cls (fl [(wO kC ad td rn pn an jn tn bm fw gp ga bp fc fj rA rC ft (if (pn < 8 ∧ inR x 6 ∧ inI 0 1000 y ∧ inL 0 1000000000 v) then updN kd pn (nOf x) else kd) aG sR sT wh dY pd cN mN sv nd wr tl lt lT lD gv gn od br)]) s.heap := by rw [← ew9]; exact hP
        have hD : va_D A (fl [(wO kC ad td rn pn an jn tn bm fw gp ga bp fc fj rA rC ft (if (pn < 8 ∧ inR x 6 ∧ inI 0 1000 y ∧ inL 0 1000000000 v) then updN kd pn (nOf x) else kd) aG sR sT wh dY pd cN mN sv nd wr tl lt lT lD gv gn od br)]) := by rw [← ew9]; exact hD
        have ew10 : aG = (if (pn < 8 ∧ inR x 6 ∧ inI 0 1000 y ∧ inL 0 1000000000 v) then updN aG pn (nOf y) else aG) := (if_neg hC).symm
        have hP : va_P D cls (fl [(wO kC ad td rn pn an jn tn bm fw gp ga bp fc fj rA rC ft (if (pn < 8 ∧ inR x 6 ∧ inI 0 1000 y ∧ inL 0 1000000000 v) then updN kd pn (nOf x) else kd) (if (pn < 8 ∧ inR x 6 ∧ inI 0 1000 y ∧ inL 0 1000000000 v) then updN aG pn (nOf y) else aG) sR sT wh dY pd cN mN sv nd wr tl lt lT lD gv gn od br)]) s.heap := by rw [← ew10]; exact hP
        have hD : va_D A (fl [(wO kC ad td rn pn an jn tn bm fw gp ga bp fc fj rA rC ft (if (pn < 8 ∧ inR x 6 ∧ inI 0 1000 y ∧ inL 0 1000000000 v) then updN kd pn (nOf x) else kd) (if (pn < 8 ∧ inR x 6 ∧ inI 0 1000 y ∧ inL 0 1000000000 v) then updN aG pn (nOf y) else aG) sR sT wh dY pd cN mN sv nd wr tl lt lT lD gv gn od br)]) := by rw [← ew10]; exact hD
        have ew11 : sR = (if (pn < 8 ∧ inR x 6 ∧ inI 0 1000 y ∧ inL 0 1000000000 v) then updN sR pn (nOfL v) else sR) := (if_neg hC).symm
        have hP : va_P D cls (fl [(wO kC ad td rn pn an jn tn bm fw gp ga bp fc fj rA rC ft (if (pn < 8 ∧ inR x 6 ∧ inI 0 1000 y ∧ inL 0 1000000000 v) then updN kd pn (nOf x) else kd) (if (pn < 8 ∧ inR x 6 ∧ inI 0 1000 y ∧ inL 0 1000000000 v) then updN aG pn (nOf y) else aG) (if (pn < 8 ∧ inR x 6 ∧ inI 0 1000 y ∧ inL 0 1000000000 v) then updN sR pn (nOfL v) else sR) sT wh dY pd cN mN sv nd wr tl lt lT lD gv gn od br)]) s.heap := by rw [← ew11]; exact hP
        have hD : va_D A (fl [(wO kC ad td rn pn an jn tn bm fw gp ga bp fc fj rA rC ft (if (pn < 8 ∧ inR x 6 ∧ inI 0 1000 y ∧ inL 0 1000000000 v) then updN kd pn (nOf x) else kd) (if (pn < 8 ∧ inR x 6 ∧ inI 0 1000 y ∧ inL 0 1000000000 v) then updN aG pn (nOf y) else aG) (if (pn < 8 ∧ inR x 6 ∧ inI 0 1000 y ∧ inL 0 1000000000 v) then updN sR pn (nOfL v) else sR) sT wh dY pd cN mN sv nd wr tl lt lT lD gv gn od br)]) := by rw [← ew11]; exact hD
        have ew12 : pn = (if (pn < 8 ∧ inR x 6 ∧ inI 0 1000 y ∧ inL 0 1000000000 v) then pn + 1 else pn) := (if_neg hC).symm
        have hP : va_P D cls (fl [(wO kC ad td rn (if (pn < 8 ∧ inR x 6 ∧ inI 0 1000 y ∧ inL 0 1000000000 v) then pn + 1 else pn) an jn tn bm fw gp ga bp fc fj rA rC ft (if (pn < 8 ∧ inR x 6 ∧ inI 0 1000 y ∧ inL 0 1000000000 v) then updN kd pn (nOf x) else kd) (if (pn < 8 ∧ inR x 6 ∧ inI 0 1000 y ∧ inL 0 1000000000 v) then updN aG pn (nOf y) else aG) (if (pn < 8 ∧ inR x 6 ∧ inI 0 1000 y ∧ inL 0 1000000000 v) then updN sR pn (nOfL v) else sR) sT wh dY pd cN mN sv nd wr tl lt lT lD gv gn od br)]) s.heap := by rw [← ew12]; exact hP
        have hD : va_D A (fl [(wO kC ad td rn (if (pn < 8 ∧ inR x 6 ∧ inI 0 1000 y ∧ inL 0 1000000000 v) then pn + 1 else pn) an jn tn bm fw gp ga bp fc fj rA rC ft (if (pn < 8 ∧ inR x 6 ∧ inI 0 1000 y ∧ inL 0 1000000000 v) then updN kd pn (nOf x) else kd) (if (pn < 8 ∧ inR x 6 ∧ inI 0 1000 y ∧ inL 0 1000000000 v) then updN aG pn (nOf y) else aG) (if (pn < 8 ∧ inR x 6 ∧ inI 0 1000 y ∧ inL 0 1000000000 v) then updN sR pn (nOfL v) else sR) sT wh dY pd cN mN sv nd wr tl lt lT lD gv gn od br)]) := by rw [← ew12]; exact hD
        exact W.iret (v := (-1)) hx hb hr (fun t ht hW => by subst hAe; exact ⟨⟨(-1), (), rfl, (if_neg hC).symm, by rw [ht]; exact hP, va_K.moved hW.alike hK, hD⟩, hS.F ht⟩) (by subst hAe; exact hS.2.2) d_O_part_40
      · have h3 := inL_i.mp (bI_n0.mp h3)
        refine lv_lload_n hx hb d_O_part_28 rfl (lv_at hl 3 rfl) ?_
        refine lv_lconst (v := lN 0) hx hb d_O_part_29 (by decide) ?_
        refine lv_ldc2 (v := 1000000000) hx hb hown (hts (.constantLong R_O 106 1000000000) (by decide +kernel)) d_O_part_30 ?_
        refine nv_topl (y := lN 1000000000) (by decide +kernel) ?_
        refine r_calli (W.runS (As := [.long v, .long (lN 0), .long (lN 1000000000)]) (rest := []) ⟨hx, hb, hml, hown, hts⟩ (c_O_isIn l v 0 1000000000 (by decide) (by decide)) (cwS 3 hts g_O_part_isIn rfl rfl rfl (by decide +kernel) ⟨Nat.le_of_ble_eq_true rfl, Nat.le_of_ble_eq_true rfl⟩) p0_preS rfl rfl hl.1 rfl (lv_room (Nat.le_of_ble_eq_true rfl)) d_O_part_33 ⟨Nat.le_of_ble_eq_true rfl, Nat.le_of_ble_eq_true rfl⟩) ?_
        refine lv_if_ne (tgt := 41) hx hb d_O_part_36 (by decide) (fun h4 => ?_) (fun h4 => ?_)
        · have h4 := bI_n0.mp h4
          have hC : (pn < 8 ∧ inR x 6 ∧ inI 0 1000 y ∧ inL 0 1000000000 v) := ⟨by omega, h2, h3, h4⟩
          obtain ⟨j, hj, rfl⟩ := inR_n (by decide) h2
          obtain ⟨k, hk1, hk2, rfl⟩ := inI_n (by decide) h3
          obtain ⟨i, hi1, hi2, rfl⟩ := inL_n (by decide) h4
          refine lv_aload_n hx hb d_O_part_41 rfl (lv_at hl 0 rfl) ?_
          refine fv_get (ci := 7) (v := .ref (ad 4)) (C := R_O) (T := F_O) (N := 36) hx hb hts (by decide +kernel) hown hK hP 0 0 rfl rfl rfl 6 (by decide) (hts (.fieldLink R_O 21 "PartShelvesModel" "kinds" "[I") (by decide +kernel)) (fun _ h9 => h9) rfl d_O_part_42 ?_
          refine lv_aload_n hx hb d_O_part_45 rfl (lv_at hl 0 rfl) ?_
          refine fv_get (ci := 7) (v := .int (nI pn)) (C := R_O) (T := F_O) (N := 36) hx hb hts (by decide +kernel) hown hK hP 0 0 rfl rfl rfl 5 (by decide) (hts (.fieldLink R_O 81 "PartShelvesModel" "parts" "I") (by decide +kernel)) (fun _ h9 => h9) rfl d_O_part_46 ?_
          refine lv_iload_n hx hb d_O_part_49 rfl (lv_at hl 1 rfl) ?_
          refine fa_iastN hx hb hK hP hD hS 0 4 0 rfl rfl rfl (by omega) (by decide) d_O_part_50 (fun H locs hP hD hS => ?_)
          have hP : va_P D cls (fl [(wO kC ad td rn pn an jn tn bm fw gp ga bp fc fj rA rC ft (updN kd pn j) aG sR sT wh dY pd cN mN sv nd wr tl lt lT lD gv gn od br)]) H := hP
          have hD : va_D A (fl [(wO kC ad td rn pn an jn tn bm fw gp ga bp fc fj rA rC ft (updN kd pn j) aG sR sT wh dY pd cN mN sv nd wr tl lt lT lD gv gn od br)]) := hD
          refine lv_aload_n hx hb d_O_part_51 rfl (lv_at hl 0 rfl) ?_
          refine fv_get (ci := 7) (v := .ref (ad 5)) (C := R_O) (T := F_O) (N := 36) hx hb hts (by decide +kernel) hown hK hP 0 0 rfl rfl rfl 7 (by decide) (hts (.fieldLink R_O 24 "PartShelvesModel" "ages" "[I") (by decide +kernel)) (fun _ h9 => h9) rfl d_O_part_52 ?_
          refine lv_aload_n hx hb d_O_part_55 rfl (lv_at hl 0 rfl) ?_
          refine fv_get (ci := 7) (v := .int (nI pn)) (C := R_O) (T := F_O) (N := 36) hx hb hts (by decide +kernel) hown hK hP 0 0 rfl rfl rfl 5 (by decide) (hts (.fieldLink R_O 81 "PartShelvesModel" "parts" "I") (by decide +kernel)) (fun _ h9 => h9) rfl d_O_part_56 ?_
          refine lv_iload_n hx hb d_O_part_59 rfl (lv_at hl 2 rfl) ?_
          refine fa_iastN hx hb hK hP hD hS 0 5 0 rfl rfl rfl (by omega) (by decide) d_O_part_60 (fun H locs hP hD hS => ?_)
          have hP : va_P D cls (fl [(wO kC ad td rn pn an jn tn bm fw gp ga bp fc fj rA rC ft (updN kd pn j) (updN aG pn k) sR sT wh dY pd cN mN sv nd wr tl lt lT lD gv gn od br)]) H := hP
          have hD : va_D A (fl [(wO kC ad td rn pn an jn tn bm fw gp ga bp fc fj rA rC ft (updN kd pn j) (updN aG pn k) sR sT wh dY pd cN mN sv nd wr tl lt lT lD gv gn od br)]) := hD
          refine lv_aload_n hx hb d_O_part_61 rfl (lv_at hl 0 rfl) ?_
          refine fv_get (ci := 7) (v := .ref (ad 6)) (C := R_O) (T := F_O) (N := 36) hx hb hts (by decide +kernel) hown hK hP 0 0 rfl rfl rfl 8 (by decide) (hts (.fieldLink R_O 27 "PartShelvesModel" "serials" "[J") (by decide +kernel)) (fun _ h9 => h9) rfl d_O_part_62 ?_
          refine lv_aload_n hx hb d_O_part_65 rfl (lv_at hl 0 rfl) ?_
          refine fv_get (ci := 7) (v := .int (nI pn)) (C := R_O) (T := F_O) (N := 36) hx hb hts (by decide +kernel) hown hK hP 0 0 rfl rfl rfl 5 (by decide) (hts (.fieldLink R_O 81 "PartShelvesModel" "parts" "I") (by decide +kernel)) (fun _ h9 => h9) rfl d_O_part_66 ?_
          refine lv_lload_n hx hb d_O_part_69 rfl (lv_at hl 3 rfl) ?_
          refine fa_lastN hx hb hK hP hD hS 0 6 1 rfl rfl rfl (by omega) (by decide) d_O_part_70 (fun H locs hP hD hS => ?_)
          have hP : va_P D cls (fl [(wO kC ad td rn pn an jn tn bm fw gp ga bp fc fj rA rC ft (updN kd pn j) (updN aG pn k) (updN sR pn i) sT wh dY pd cN mN sv nd wr tl lt lT lD gv gn od br)]) H := hP
          have hD : va_D A (fl [(wO kC ad td rn pn an jn tn bm fw gp ga bp fc fj rA rC ft (updN kd pn j) (updN aG pn k) (updN sR pn i) sT wh dY pd cN mN sv nd wr tl lt lT lD gv gn od br)]) := hD
          refine lv_aload_n hx hb d_O_part_71 rfl (lv_at hl 0 rfl) ?_
          refine lv_dup hx hb d_O_part_72 rfl ?_
          refine fv_get (ci := 7) (v := .int (nI pn)) (C := R_O) (T := F_O) (N := 36) hx hb hts (by decide +kernel) hown hK hP 0 0 rfl rfl rfl 5 (by decide) (hts (.fieldLink R_O 81 "PartShelvesModel" "parts" "I") (by decide +kernel)) (fun _ h9 => h9) rfl d_O_part_73 ?_
          refine lv_iconst (v := nI 1) hx hb d_O_part_76 (by decide) ?_
          refine nv_iadd hx hb d_O_part_77 ?_
          refine fv_put (ci := 7) (v := .int (nI (pn + 1))) (ty := (.int)) (C := R_O) (T := F_O) (N := 36) hx hb hts (by decide +kernel) t_O t_O_ok n_O hown hK hP hD hS 0 0 rfl rfl rfl 5 (by decide) (hts (.fieldLink R_O 81 "PartShelvesModel" "parts" "I") (by decide +kernel)) (fun _ h9 => h9) rfl (by decide +kernel) (rfl) (rfl) (Nat.le_of_ble_eq_true rfl) d_O_part_78 (fun H locs hP hD hS => ?_)
          have hP : va_P D cls (fl [(wO kC ad td rn (pn + 1) an jn tn bm fw gp ga bp fc fj rA rC ft (updN kd pn j) (updN aG pn k) (updN sR pn i) sT wh dY pd cN mN sv nd wr tl lt lT lD gv gn od br)]) H := hP
          have hD : va_D A (fl [(wO kC ad td rn (pn + 1) an jn tn bm fw gp ga bp fc fj rA rC ft (updN kd pn j) (updN aG pn k) (updN sR pn i) sT wh dY pd cN mN sv nd wr tl lt lT lD gv gn od br)]) := hD
          refine lv_aload_n hx hb d_O_part_81 rfl (lv_at hl 0 rfl) ?_
          refine fv_get (ci := 7) (v := .int (nI (pn + 1))) (C := R_O) (T := F_O) (N := 36) hx hb hts (by decide +kernel) hown hK hP 0 0 rfl rfl rfl 5 (by decide) (hts (.fieldLink R_O 81 "PartShelvesModel" "parts" "I") (by decide +kernel)) (fun _ h9 => h9) rfl d_O_part_82 ?_
          refine lv_iconst (v := nI 1) hx hb d_O_part_85 (by decide) ?_
          refine nv_isub hx hb d_O_part_86 (by omega) ?_
          have ew13 : (updN kd pn j) = (if (pn < 8 ∧ inR (nI j) 6 ∧ inI 0 1000 (nI k) ∧ inL 0 1000000000 (lN i)) then updN kd pn (nOf (nI j)) else kd) := by rw [if_pos hC, nOf_nI (by omega)]
          have hP : va_P D cls (fl [(wO kC ad td rn (pn + 1) an jn tn bm fw gp ga bp fc fj rA rC ft (if (pn < 8 ∧ inR (nI j) 6 ∧ inI 0 1000 (nI k) ∧ inL 0 1000000000 (lN i)) then updN kd pn (nOf (nI j)) else kd) (updN aG pn k) (updN sR pn i) sT wh dY pd cN mN sv nd wr tl lt lT lD gv gn od br)]) H := by rw [← ew13]; exact hP
          have hD : va_D A (fl [(wO kC ad td rn (pn + 1) an jn tn bm fw gp ga bp fc fj rA rC ft (if (pn < 8 ∧ inR (nI j) 6 ∧ inI 0 1000 (nI k) ∧ inL 0 1000000000 (lN i)) then updN kd pn (nOf (nI j)) else kd) (updN aG pn k) (updN sR pn i) sT wh dY pd cN mN sv nd wr tl lt lT lD gv gn od br)]) := by rw [← ew13]; exact hD
          have ew14 : (updN aG pn k) = (if (pn < 8 ∧ inR (nI j) 6 ∧ inI 0 1000 (nI k) ∧ inL 0 1000000000 (lN i)) then updN aG pn (nOf (nI k)) else aG) := by rw [if_pos hC, nOf_nI (by omega)]
          have hP : va_P D cls (fl [(wO kC ad td rn (pn + 1) an jn tn bm fw gp ga bp fc fj rA rC ft (if (pn < 8 ∧ inR (nI j) 6 ∧ inI 0 1000 (nI k) ∧ inL 0 1000000000 (lN i)) then updN kd pn (nOf (nI j)) else kd) (if (pn < 8 ∧ inR (nI j) 6 ∧ inI 0 1000 (nI k) ∧ inL 0 1000000000 (lN i)) then updN aG pn (nOf (nI k)) else aG) (updN sR pn i) sT wh dY pd cN mN sv nd wr tl lt lT lD gv gn od br)]) H := by rw [← ew14]; exact hP
          have hD : va_D A (fl [(wO kC ad td rn (pn + 1) an jn tn bm fw gp ga bp fc fj rA rC ft (if (pn < 8 ∧ inR (nI j) 6 ∧ inI 0 1000 (nI k) ∧ inL 0 1000000000 (lN i)) then updN kd pn (nOf (nI j)) else kd) (if (pn < 8 ∧ inR (nI j) 6 ∧ inI 0 1000 (nI k) ∧ inL 0 1000000000 (lN i)) then updN aG pn (nOf (nI k)) else aG) (updN sR pn i) sT wh dY pd cN mN sv nd wr tl lt lT lD gv gn od br)]) := by rw [← ew14]; exact hD
          have ew15 : (updN sR pn i) = (if (pn < 8 ∧ inR (nI j) 6 ∧ inI 0 1000 (nI k) ∧ inL 0 1000000000 (lN i)) then updN sR pn (nOfL (lN i)) else sR) := by rw [if_pos hC, nOfL_lN (by omega)]
          have hP : va_P D cls (fl [(wO kC ad td rn (pn + 1) an jn tn bm fw gp ga bp fc fj rA rC ft (if (pn < 8 ∧ inR (nI j) 6 ∧ inI 0 1000 (nI k) ∧ inL 0 1000000000 (lN i)) then updN kd pn (nOf (nI j)) else kd) (if (pn < 8 ∧ inR (nI j) 6 ∧ inI 0 1000 (nI k) ∧ inL 0 1000000000 (lN i)) then updN aG pn (nOf (nI k)) else aG) (if (pn < 8 ∧ inR (nI j) 6 ∧ inI 0 1000 (nI k) ∧ inL 0 1000000000 (lN i)) then updN sR pn (nOfL (lN i)) else sR) sT wh dY pd cN mN sv nd wr tl lt lT lD gv gn od br)]) H := by rw [← ew15]; exact hP
          have hD : va_D A (fl [(wO kC ad td rn (pn + 1) an jn tn bm fw gp ga bp fc fj rA rC ft (if (pn < 8 ∧ inR (nI j) 6 ∧ inI 0 1000 (nI k) ∧ inL 0 1000000000 (lN i)) then updN kd pn (nOf (nI j)) else kd) (if (pn < 8 ∧ inR (nI j) 6 ∧ inI 0 1000 (nI k) ∧ inL 0 1000000000 (lN i)) then updN aG pn (nOf (nI k)) else aG) (if (pn < 8 ∧ inR (nI j) 6 ∧ inI 0 1000 (nI k) ∧ inL 0 1000000000 (lN i)) then updN sR pn (nOfL (lN i)) else sR) sT wh dY pd cN mN sv nd wr tl lt lT lD gv gn od br)]) := by rw [← ew15]; exact hD
          have ew16 : (pn + 1) = (if (pn < 8 ∧ inR (nI j) 6 ∧ inI 0 1000 (nI k) ∧ inL 0 1000000000 (lN i)) then pn + 1 else pn) := by rw [if_pos hC]
          have hP : va_P D cls (fl [(wO kC ad td rn (if (pn < 8 ∧ inR (nI j) 6 ∧ inI 0 1000 (nI k) ∧ inL 0 1000000000 (lN i)) then pn + 1 else pn) an jn tn bm fw gp ga bp fc fj rA rC ft (if (pn < 8 ∧ inR (nI j) 6 ∧ inI 0 1000 (nI k) ∧ inL 0 1000000000 (lN i)) then updN kd pn (nOf (nI j)) else kd) (if (pn < 8 ∧ inR (nI j) 6 ∧ inI 0 1000 (nI k) ∧ inL 0 1000000000 (lN i)) then updN aG pn (nOf (nI k)) else aG) (if (pn < 8 ∧ inR (nI j) 6 ∧ inI 0 1000 (nI k) ∧ inL 0 1000000000 (lN i)) then updN sR pn (nOfL (lN i)) else sR) sT wh dY pd cN mN sv nd wr tl lt lT lD gv gn od br)]) H := by rw [← ew16]; exact hP
          have hD : va_D A (fl [(wO kC ad td rn (if (pn < 8 ∧ inR (nI j) 6 ∧ inI 0 1000 (nI k) ∧ inL 0 1000000000 (lN i)) then pn + 1 else pn) an jn tn bm fw gp ga bp fc fj rA rC ft (if (pn < 8 ∧ inR (nI j) 6 ∧ inI 0 1000 (nI k) ∧ inL 0 1000000000 (lN i)) then updN kd pn (nOf (nI j)) else kd) (if (pn < 8 ∧ inR (nI j) 6 ∧ inI 0 1000 (nI k) ∧ inL 0 1000000000 (lN i)) then updN aG pn (nOf (nI k)) else aG) (if (pn < 8 ∧ inR (nI j) 6 ∧ inI 0 1000 (nI k) ∧ inL 0 1000000000 (lN i)) then updN sR pn (nOfL (lN i)) else sR) sT wh dY pd cN mN sv nd wr tl lt lT lD gv gn od br)]) := by rw [← ew16]; exact hD
          exact W.iret (v := nI ((pn + 1) - 1)) hx hb hr (fun t ht hW => by subst hAe; exact ⟨⟨(nI ((pn + 1) - 1)), (), rfl, (if_pos hC).symm, by rw [ht]; exact hP, va_K.moved hW.alike hK, hD⟩, hS.F ht⟩) (by subst hAe; exact hS.2.2) d_O_part_87
        · have hC : ¬ (pn < 8 ∧ inR x 6 ∧ inI 0 1000 y ∧ inL 0 1000000000 v) := fun q => by first | exact absurd q.2.2.2 (bI_0.mp h4) | exact absurd (inL_i.mpr q.2.2.1) (bI_0.mp h3) | exact absurd q.2.1 (bI_0.mp h2) | (have := q.1; omega)
          refine lv_iconst (v := (-1)) hx hb d_O_part_39 (by decide) ?_
          have ew17 : kd = (if (pn < 8 ∧ inR x 6 ∧ inI 0 1000 y ∧ inL 0 1000000000 v) then updN kd pn (nOf x) else kd) := (if_neg hC).symm
          have hP : va_P D cls (fl [(wO kC ad td rn pn an jn tn bm fw gp ga bp fc fj rA rC ft (if (pn < 8 ∧ inR x 6 ∧ inI 0 1000 y ∧ inL 0 1000000000 v) then updN kd pn (nOf x) else kd) aG sR sT wh dY pd cN mN sv nd wr tl lt lT lD gv gn od br)]) s.heap := by rw [← ew17]; exact hP
          have hD : va_D A (fl [(wO kC ad td rn pn an jn tn bm fw gp ga bp fc fj rA rC ft (if (pn < 8 ∧ inR x 6 ∧ inI 0 1000 y ∧ inL 0 1000000000 v) then updN kd pn (nOf x) else kd) aG sR sT wh dY pd cN mN sv nd wr tl lt lT lD gv gn od br)]) := by rw [← ew17]; exact hD
          have ew18 : aG = (if (pn < 8 ∧ inR x 6 ∧ inI 0 1000 y ∧ inL 0 1000000000 v) then updN aG pn (nOf y) else aG) := (if_neg hC).symm
          have hP : va_P D cls (fl [(wO kC ad td rn pn an jn tn bm fw gp ga bp fc fj rA rC ft (if (pn < 8 ∧ inR x 6 ∧ inI 0 1000 y ∧ inL 0 1000000000 v) then updN kd pn (nOf x) else kd) (if (pn < 8 ∧ inR x 6 ∧ inI 0 1000 y ∧ inL 0 1000000000 v) then updN aG pn (nOf y) else aG) sR sT wh dY pd cN mN sv nd wr tl lt lT lD gv gn od br)]) s.heap := by rw [← ew18]; exact hP
          have hD : va_D A (fl [(wO kC ad td rn pn an jn tn bm fw gp ga bp fc fj rA rC ft (if (pn < 8 ∧ inR x 6 ∧ inI 0 1000 y ∧ inL 0 1000000000 v) then updN kd pn (nOf x) else kd) (if (pn < 8 ∧ inR x 6 ∧ inI 0 1000 y ∧ inL 0 1000000000 v) then updN aG pn (nOf y) else aG) sR sT wh dY pd cN mN sv nd wr tl lt lT lD gv gn od br)]) := by rw [← ew18]; exact hD
          have ew19 : sR = (if (pn < 8 ∧ inR x 6 ∧ inI 0 1000 y ∧ inL 0 1000000000 v) then updN sR pn (nOfL v) else sR) := (if_neg hC).symm
          have hP : va_P D cls (fl [(wO kC ad td rn pn an jn tn bm fw gp ga bp fc fj rA rC ft (if (pn < 8 ∧ inR x 6 ∧ inI 0 1000 y ∧ inL 0 1000000000 v) then updN kd pn (nOf x) else kd) (if (pn < 8 ∧ inR x 6 ∧ inI 0 1000 y ∧ inL 0 1000000000 v) then updN aG pn (nOf y) else aG) (if (pn < 8 ∧ inR x 6 ∧ inI 0 1000 y ∧ inL 0 1000000000 v) then updN sR pn (nOfL v) else sR) sT wh dY pd cN mN sv nd wr tl lt lT lD gv gn od br)]) s.heap := by rw [← ew19]; exact hP
          have hD : va_D A (fl [(wO kC ad td rn pn an jn tn bm fw gp ga bp fc fj rA rC ft (if (pn < 8 ∧ inR x 6 ∧ inI 0 1000 y ∧ inL 0 1000000000 v) then updN kd pn (nOf x) else kd) (if (pn < 8 ∧ inR x 6 ∧ inI 0 1000 y ∧ inL 0 1000000000 v) then updN aG pn (nOf y) else aG) (if (pn < 8 ∧ inR x 6 ∧ inI 0 1000 y ∧ inL 0 1000000000 v) then updN sR pn (nOfL v) else sR) sT wh dY pd cN mN sv nd wr tl lt lT lD gv gn od br)]) := by rw [← ew19]; exact hD
          have ew20 : pn = (if (pn < 8 ∧ inR x 6 ∧ inI 0 1000 y ∧ inL 0 1000000000 v) then pn + 1 else pn) := (if_neg hC).symm
          have hP : va_P D cls (fl [(wO kC ad td rn (if (pn < 8 ∧ inR x 6 ∧ inI 0 1000 y ∧ inL 0 1000000000 v) then pn + 1 else pn) an jn tn bm fw gp ga bp fc fj rA rC ft (if (pn < 8 ∧ inR x 6 ∧ inI 0 1000 y ∧ inL 0 1000000000 v) then updN kd pn (nOf x) else kd) (if (pn < 8 ∧ inR x 6 ∧ inI 0 1000 y ∧ inL 0 1000000000 v) then updN aG pn (nOf y) else aG) (if (pn < 8 ∧ inR x 6 ∧ inI 0 1000 y ∧ inL 0 1000000000 v) then updN sR pn (nOfL v) else sR) sT wh dY pd cN mN sv nd wr tl lt lT lD gv gn od br)]) s.heap := by rw [← ew20]; exact hP
          have hD : va_D A (fl [(wO kC ad td rn (if (pn < 8 ∧ inR x 6 ∧ inI 0 1000 y ∧ inL 0 1000000000 v) then pn + 1 else pn) an jn tn bm fw gp ga bp fc fj rA rC ft (if (pn < 8 ∧ inR x 6 ∧ inI 0 1000 y ∧ inL 0 1000000000 v) then updN kd pn (nOf x) else kd) (if (pn < 8 ∧ inR x 6 ∧ inI 0 1000 y ∧ inL 0 1000000000 v) then updN aG pn (nOf y) else aG) (if (pn < 8 ∧ inR x 6 ∧ inI 0 1000 y ∧ inL 0 1000000000 v) then updN sR pn (nOfL v) else sR) sT wh dY pd cN mN sv nd wr tl lt lT lD gv gn od br)]) := by rw [← ew20]; exact hD
          exact W.iret (v := (-1)) hx hb hr (fun t ht hW => by subst hAe; exact ⟨⟨(-1), (), rfl, (if_neg hC).symm, by rw [ht]; exact hP, va_K.moved hW.alike hK, hD⟩, hS.F ht⟩) (by subst hAe; exact hS.2.2) d_O_part_40

abbrev b_O_ask : ByteArray := prog_9_method_16_code
def y_O_ask : MethodName := ⟨"PartShelvesModel", "ask", "(IJJ)I"⟩
theorem d_O_ask_0 : decode b_O_ask 0 = .ok (.aload_n 0, 1) := by decide +kernel
theorem d_O_ask_1 : decode b_O_ask 1 = .ok (.getfield 85, 3) := by decide +kernel
theorem d_O_ask_4 : decode b_O_ask 4 = .ok (.bipush 8, 2) := by decide +kernel
theorem d_O_ask_6 : decode b_O_ask 6 = .ok (.if_icmp .eq 33, 3) := by decide +kernel
theorem d_O_ask_9 : decode b_O_ask 9 = .ok (.iload_n 1, 1) := by decide +kernel
theorem d_O_ask_10 : decode b_O_ask 10 = .ok (.invokestatic 102, 3) := by decide +kernel
theorem d_O_ask_13 : decode b_O_ask 13 = .ok (.ifCond .eq 26, 3) := by decide +kernel
theorem d_O_ask_16 : decode b_O_ask 16 = .ok (.lload_n 2, 1) := by decide +kernel
theorem d_O_ask_17 : decode b_O_ask 17 = .ok (.lconst 0, 1) := by decide +kernel
theorem d_O_ask_18 : decode b_O_ask 18 = .ok (.ldc2_w 121, 3) := by decide +kernel
theorem d_O_ask_21 : decode b_O_ask 21 = .ok (.invokestatic 93, 3) := by decide +kernel
theorem d_O_ask_24 : decode b_O_ask 24 = .ok (.ifCond .eq 15, 3) := by decide +kernel
theorem d_O_ask_27 : decode b_O_ask 27 = .ok (.lload 4, 2) := by decide +kernel
theorem d_O_ask_29 : decode b_O_ask 29 = .ok (.lconst 0, 1) := by decide +kernel
theorem d_O_ask_30 : decode b_O_ask 30 = .ok (.ldc2_w 106, 3) := by decide +kernel
theorem d_O_ask_33 : decode b_O_ask 33 = .ok (.invokestatic 93, 3) := by decide +kernel
theorem d_O_ask_36 : decode b_O_ask 36 = .ok (.ifCond .ne 5, 3) := by decide +kernel
theorem d_O_ask_39 : decode b_O_ask 39 = .ok (.iconst (-1), 1) := by decide +kernel
theorem d_O_ask_40 : decode b_O_ask 40 = .ok (.ireturn, 1) := by decide +kernel
theorem d_O_ask_41 : decode b_O_ask 41 = .ok (.aload_n 0, 1) := by decide +kernel
theorem d_O_ask_42 : decode b_O_ask 42 = .ok (.getfield 39, 3) := by decide +kernel
theorem d_O_ask_45 : decode b_O_ask 45 = .ok (.aload_n 0, 1) := by decide +kernel
theorem d_O_ask_46 : decode b_O_ask 46 = .ok (.getfield 85, 3) := by decide +kernel
theorem d_O_ask_49 : decode b_O_ask 49 = .ok (.iload_n 1, 1) := by decide +kernel
theorem d_O_ask_50 : decode b_O_ask 50 = .ok (.iastore, 1) := by decide +kernel
theorem d_O_ask_51 : decode b_O_ask 51 = .ok (.aload_n 0, 1) := by decide +kernel
theorem d_O_ask_52 : decode b_O_ask 52 = .ok (.getfield 42, 3) := by decide +kernel
theorem d_O_ask_55 : decode b_O_ask 55 = .ok (.aload_n 0, 1) := by decide +kernel
theorem d_O_ask_56 : decode b_O_ask 56 = .ok (.getfield 85, 3) := by decide +kernel
theorem d_O_ask_59 : decode b_O_ask 59 = .ok (.lload_n 2, 1) := by decide +kernel
theorem d_O_ask_60 : decode b_O_ask 60 = .ok (.lastore, 1) := by decide +kernel
theorem d_O_ask_61 : decode b_O_ask 61 = .ok (.aload_n 0, 1) := by decide +kernel
theorem d_O_ask_62 : decode b_O_ask 62 = .ok (.getfield 45, 3) := by decide +kernel
theorem d_O_ask_65 : decode b_O_ask 65 = .ok (.aload_n 0, 1) := by decide +kernel
theorem d_O_ask_66 : decode b_O_ask 66 = .ok (.getfield 85, 3) := by decide +kernel
theorem d_O_ask_69 : decode b_O_ask 69 = .ok (.lload 4, 2) := by decide +kernel
theorem d_O_ask_71 : decode b_O_ask 71 = .ok (.lastore, 1) := by decide +kernel
theorem d_O_ask_72 : decode b_O_ask 72 = .ok (.aload_n 0, 1) := by decide +kernel
theorem d_O_ask_73 : decode b_O_ask 73 = .ok (.dup, 1) := by decide +kernel
theorem d_O_ask_74 : decode b_O_ask 74 = .ok (.getfield 85, 3) := by decide +kernel
theorem d_O_ask_77 : decode b_O_ask 77 = .ok (.iconst 1, 1) := by decide +kernel
theorem d_O_ask_78 : decode b_O_ask 78 = .ok (.iadd, 1) := by decide +kernel
theorem d_O_ask_79 : decode b_O_ask 79 = .ok (.putfield 85, 3) := by decide +kernel
theorem d_O_ask_82 : decode b_O_ask 82 = .ok (.aload_n 0, 1) := by decide +kernel
theorem d_O_ask_83 : decode b_O_ask 83 = .ok (.getfield 85, 3) := by decide +kernel
theorem d_O_ask_86 : decode b_O_ask 86 = .ok (.iconst 1, 1) := by decide +kernel
theorem d_O_ask_87 : decode b_O_ask 87 = .ok (.isub, 1) := by decide +kernel
theorem d_O_ask_88 : decode b_O_ask 88 = .ok (.ireturn, 1) := by decide +kernel
def w_O_ask : List Cond := .code y_O_ask b_O_ask 6 (some .int) :: ([.fieldLink "PartShelvesModel" 85 "PartShelvesModel" "asks" "I", .methodLink "PartShelvesModel" 102 ⟨"PartShelvesModel", "isKind", "(I)Z"⟩, .static ⟨"PartShelvesModel", "isKind", "(I)Z"⟩, .initialized "PartShelvesModel", .code ⟨"PartShelvesModel", "isKind", "(I)Z"⟩ prog_9_method_4_code 1 (some .boolean), .constantLong "PartShelvesModel" 121 1000000, .methodLink "PartShelvesModel" 93 ⟨"PartShelvesModel", "isIn", "(JJJ)Z"⟩, .static ⟨"PartShelvesModel", "isIn", "(JJJ)Z"⟩, .code ⟨"PartShelvesModel", "isIn", "(JJJ)Z"⟩ prog_9_method_3_code 6 (some .boolean), .constantLong "PartShelvesModel" 106 1000000000, .fieldLink "PartShelvesModel" 39 "PartShelvesModel" "products" "[I", .fieldLink "PartShelvesModel" 42 "PartShelvesModel" "cents" "[J", .fieldLink "PartShelvesModel" 45 "PartShelvesModel" "minutes" "[J"] ++ u_ws R_O F_O 36)
set_option maxRecDepth 20000 in
theorem g_O_ask_isKind : GoodIn w_O_ask (wsS R_O 102 y_O_isKind w_O_isKind) := goodIn_p _ [5] rfl (by decide +kernel)
set_option maxRecDepth 20000 in
theorem g_O_ask_isIn : GoodIn w_O_ask (wsS R_O 93 y_O_isIn w_O_isIn) := goodIn_p _ [9] rfl (by decide +kernel)
set_option maxHeartbeats 4000000 in
set_option maxRecDepth 100000 in
theorem c_O_ask (l : Launch) (D : va_G) (kC : Nat → ClassId) (ad : Nat → Nat) (td : Nat) (rn : Nat) (pn : Nat) (an : Nat) (jn : Nat) (tn : Nat) (bm : Int32) (fw : Int64) (gp : Nat) (ga : Nat) (bp : Int32) (fc : Int64) (fj : Nat) (rA : Nat → Nat) (rC : Nat → Nat) (ft : Nat → Int32) (kd : Nat → Nat) (aG : Nat → Nat) (sR : Nat → Nat) (sT : Nat → Nat) (wh : Nat → Nat) (dY : Nat → Nat) (pd : Nat → Nat) (cN : Nat → Nat) (mN : Nat → Nat) (sv : Nat → Int32) (nd : Nat → Nat) (wr : Nat → Nat) (tl : Nat → Nat) (lt : Nat → Int32) (lT : Nat → Nat) (lD : Nat → Nat) (gv : Nat → Int32) (gn : Nat → Int64) (od : Nat → Nat) (br : Nat → Nat) (x : Int32) (v : Int64) (u : Int64) (sz : Nat) (han : an ≤ 8) : Met l y_O_ask w_O_ask ({ frames := 1, cells := 0, slots := 0, locals := 25 } : Room) (gPre cls D (tyL kC) [.ref (ad 0), .int x, .long v, .long u] (fl [(wO kC ad td rn pn an jn tn bm fw gp ga bp fc fj rA rC ft kd aG sR sT wh dY pd cN mN sv nd wr tl lt lT lD gv gn od br)]) sz) (gQi cls D (tyL kC) (fl [(wO kC ad td rn pn an jn tn bm fw gp ga bp fc fj rA rC ft kd aG sR sT wh dY pd cN mN sv nd wr tl lt lT lD gv gn od br)]) sz (if (an < 8 ∧ inR x 6 ∧ inL 0 1000000 v ∧ inL 0 1000000000 u) then nI an else -1) (fl [(wO kC ad td rn pn (if (an < 8 ∧ inR x 6 ∧ inL 0 1000000 v ∧ inL 0 1000000000 u) then an + 1 else an) jn tn bm fw gp ga bp fc fj rA rC ft kd aG sR sT wh dY (if (an < 8 ∧ inR x 6 ∧ inL 0 1000000 v ∧ inL 0 1000000000 u) then updN pd an (nOf x) else pd) (if (an < 8 ∧ inR x 6 ∧ inL 0 1000000 v ∧ inL 0 1000000000 u) then updN cN an (nOfL v) else cN) (if (an < 8 ∧ inR x 6 ∧ inL 0 1000000 v ∧ inL 0 1000000000 u) then updN mN an (nOfL u) else mN) sv nd wr tl lt lT lD gv gn od br)])) 0 0 (va_A (fl [(wO kC ad td rn pn an jn tn bm fw gp ga bp fc fj rA rC ft kd aG sR sT wh dY pd cN mN sv nd wr tl lt lT lD gv gn od br)]) sz) := by
  refine Met.ofW (cc := b_O_ask) (maxL := 6) (ret := (some .int)) (by decide) rfl ?_
  intro p e s m args below meth c s₁ B hml hv
  obtain ⟨rfl, hsz, hP, hK, hD0⟩ := hv
  have hx := B.exec
  have hb := B.bytes
  have hr := B.returns
  have hts := atoms_spec (ws := w_O_ask) B.pre
  have hown : s.vm.findClass R_O = some m.cls := findClass_of_methodNamed B.named
  have hlocks := B.notSynchronized
  subst hsz
  obtain ⟨A, hAe⟩ : ∃ A : Nat → Prop, A = va_A (fl [(wO kC ad td rn pn an jn tn bm fw gp ga bp fc fj rA rC ft kd aG sR sT wh dY pd cN mN sv nd wr tl lt lT lD gv gn od br)]) s.heap.size := ⟨_, rfl⟩
  have hD : va_D A (fl [(wO kC ad td rn pn an jn tn bm fw gp ga bp fc fj rA rC ft kd aG sR sT wh dY pd cN mN sv nd wr tl lt lT lD gv gn od br)]) := by rw [hAe]; exact hD0.self
  have hA : ∀ q : Nat, s.heap.size ≤ q → A q := fun q h => by rw [hAe]; exact Or.inr h
  have hS : va_S A s.heap s.heap [] := va_S.rf
  have hl := lv_entry ([.ref (ad 0), .int x, .long v, .long u]) (n := 6) (Nat.le_of_ble_eq_true rfl)
  rw [lg_entry_eq]
  generalize (lg_sl ([.ref (ad 0), .int x, .long v, .long u]) ++ List.replicate (6 - (lg_sl ([.ref (ad 0), .int x, .long v, .long u])).length) Slot.unset).toArray = ls at hl ⊢
  have hl : lv_has ls 6 [(0, .ref (ad 0)), (1, .int x), (2, .long v), (4, .long u)] := hl
  refine lv_aload_n hx hb d_O_ask_0 rfl (lv_at hl 0 rfl) ?_
  refine fv_get (ci := 7) (v := .int (nI an)) (C := R_O) (T := F_O) (N := 36) hx hb hts (by decide +kernel) hown hK hP 0 0 rfl rfl rfl 12 (by decide) (hts (.fieldLink R_O 85 "PartShelvesModel" "asks" "I") (by decide +kernel)) (fun _ h9 => h9) rfl d_O_ask_1 ?_
  refine lv_bipush (v := nI 8) hx hb d_O_ask_4 (by decide +kernel) ?_
  refine nv_icmp_eq (tgt := 39) hx hb d_O_ask_6 (by decide) (by omega) (by omega) (fun h1 => ?_) (fun h1 => ?_)
  · have hC : ¬ (an < 8 ∧ inR x 6 ∧ inL 0 1000000 v ∧ inL 0 1000000000 u) := fun q => by first | exact absurd q.2.2.2 (bI_0.mp h4) | exact absurd q.2.2.1 (bI_0.mp h3) | exact absurd q.2.1 (bI_0.mp h2) | (have := q.1; omega)
    refine lv_iconst (v := (-1)) hx hb d_O_ask_39 (by decide) ?_
    have ew1 : pd = (if (an < 8 ∧ inR x 6 ∧ inL 0 1000000 v ∧ inL 0 1000000000 u) then updN pd an (nOf x) else pd) := (if_neg hC).symm
    have hP : va_P D cls (fl [(wO kC ad td rn pn an jn tn bm fw gp ga bp fc fj rA rC ft kd aG sR sT wh dY (if (an < 8 ∧ inR x 6 ∧ inL 0 1000000 v ∧ inL 0 1000000000 u) then updN pd an (nOf x) else pd) cN mN sv nd wr tl lt lT lD gv gn od br)]) s.heap := by rw [← ew1]; exact hP
    have hD : va_D A (fl [(wO kC ad td rn pn an jn tn bm fw gp ga bp fc fj rA rC ft kd aG sR sT wh dY (if (an < 8 ∧ inR x 6 ∧ inL 0 1000000 v ∧ inL 0 1000000000 u) then updN pd an (nOf x) else pd) cN mN sv nd wr tl lt lT lD gv gn od br)]) := by rw [← ew1]; exact hD
    have ew2 : cN = (if (an < 8 ∧ inR x 6 ∧ inL 0 1000000 v ∧ inL 0 1000000000 u) then updN cN an (nOfL v) else cN) := (if_neg hC).symm
    have hP : va_P D cls (fl [(wO kC ad td rn pn an jn tn bm fw gp ga bp fc fj rA rC ft kd aG sR sT wh dY (if (an < 8 ∧ inR x 6 ∧ inL 0 1000000 v ∧ inL 0 1000000000 u) then updN pd an (nOf x) else pd) (if (an < 8 ∧ inR x 6 ∧ inL 0 1000000 v ∧ inL 0 1000000000 u) then updN cN an (nOfL v) else cN) mN sv nd wr tl lt lT lD gv gn od br)]) s.heap := by rw [← ew2]; exact hP
    have hD : va_D A (fl [(wO kC ad td rn pn an jn tn bm fw gp ga bp fc fj rA rC ft kd aG sR sT wh dY (if (an < 8 ∧ inR x 6 ∧ inL 0 1000000 v ∧ inL 0 1000000000 u) then updN pd an (nOf x) else pd) (if (an < 8 ∧ inR x 6 ∧ inL 0 1000000 v ∧ inL 0 1000000000 u) then updN cN an (nOfL v) else cN) mN sv nd wr tl lt lT lD gv gn od br)]) := by rw [← ew2]; exact hD
    have ew3 : mN = (if (an < 8 ∧ inR x 6 ∧ inL 0 1000000 v ∧ inL 0 1000000000 u) then updN mN an (nOfL u) else mN) := (if_neg hC).symm
    have hP : va_P D cls (fl [(wO kC ad td rn pn an jn tn bm fw gp ga bp fc fj rA rC ft kd aG sR sT wh dY (if (an < 8 ∧ inR x 6 ∧ inL 0 1000000 v ∧ inL 0 1000000000 u) then updN pd an (nOf x) else pd) (if (an < 8 ∧ inR x 6 ∧ inL 0 1000000 v ∧ inL 0 1000000000 u) then updN cN an (nOfL v) else cN) (if (an < 8 ∧ inR x 6 ∧ inL 0 1000000 v ∧ inL 0 1000000000 u) then updN mN an (nOfL u) else mN) sv nd wr tl lt lT lD gv gn od br)]) s.heap := by rw [← ew3]; exact hP
    have hD : va_D A (fl [(wO kC ad td rn pn an jn tn bm fw gp ga bp fc fj rA rC ft kd aG sR sT wh dY (if (an < 8 ∧ inR x 6 ∧ inL 0 1000000 v ∧ inL 0 1000000000 u) then updN pd an (nOf x) else pd) (if (an < 8 ∧ inR x 6 ∧ inL 0 1000000 v ∧ inL 0 1000000000 u) then updN cN an (nOfL v) else cN) (if (an < 8 ∧ inR x 6 ∧ inL 0 1000000 v ∧ inL 0 1000000000 u) then updN mN an (nOfL u) else mN) sv nd wr tl lt lT lD gv gn od br)]) := by rw [← ew3]; exact hD
    have ew4 : an = (if (an < 8 ∧ inR x 6 ∧ inL 0 1000000 v ∧ inL 0 1000000000 u) then an + 1 else an) := (if_neg hC).symm
    have hP : va_P D cls (fl [(wO kC ad td rn pn (if (an < 8 ∧ inR x 6 ∧ inL 0 1000000 v ∧ inL 0 1000000000 u) then an + 1 else an) jn tn bm fw gp ga bp fc fj rA rC ft kd aG sR sT wh dY (if (an < 8 ∧ inR x 6 ∧ inL 0 1000000 v ∧ inL 0 1000000000 u) then updN pd an (nOf x) else pd) (if (an < 8 ∧ inR x 6 ∧ inL 0 1000000 v ∧ inL 0 1000000000 u) then updN cN an (nOfL v) else cN) (if (an < 8 ∧ inR x 6 ∧ inL 0 1000000 v ∧ inL 0 1000000000 u) then updN mN an (nOfL u) else mN) sv nd wr tl lt lT lD gv gn od br)]) s.heap := by rw [← ew4]; exact hP
    have hD : va_D A (fl [(wO kC ad td rn pn (if (an < 8 ∧ inR x 6 ∧ inL 0 1000000 v ∧ inL 0 1000000000 u) then an + 1 else an) jn tn bm fw gp ga bp fc fj rA rC ft kd aG sR sT wh dY (if (an < 8 ∧ inR x 6 ∧ inL 0 1000000 v ∧ inL 0 1000000000 u) then updN pd an (nOf x) else pd) (if (an < 8 ∧ inR x 6 ∧ inL 0 1000000 v ∧ inL 0 1000000000 u) then updN cN an (nOfL v) else cN) (if (an < 8 ∧ inR x 6 ∧ inL 0 1000000 v ∧ inL 0 1000000000 u) then updN mN an (nOfL u) else mN) sv nd wr tl lt lT lD gv gn od br)]) := by rw [← ew4]; exact hD
    exact W.iret (v := (-1)) hx hb hr (fun t ht hW => by subst hAe; exact ⟨⟨(-1), (), rfl, (if_neg hC).symm, by rw [ht]; exact hP, va_K.moved hW.alike hK, hD⟩, hS.F ht⟩) (by subst hAe; exact hS.2.2) d_O_ask_40
  · refine lv_iload_n hx hb d_O_ask_9 rfl (lv_at hl 1 rfl) ?_
    refine r_calli (W.runS (As := [.int x]) (rest := []) ⟨hx, hb, hml, hown, hts⟩ (c_O_isKind l x) (cwS 1 hts g_O_ask_isKind rfl rfl rfl (by decide +kernel) ⟨Nat.le_of_ble_eq_true rfl, Nat.le_of_ble_eq_true rfl⟩) p0_preS rfl rfl hl.1 rfl (lv_room (Nat.le_of_ble_eq_true rfl)) d_O_ask_10 ⟨Nat.le_of_ble_eq_true rfl, Nat.le_of_ble_eq_true rfl⟩) ?_
    refine lv_if_eq (tgt := 39) hx hb d_O_ask_13 (by decide) (fun h2 => ?_) (fun h2 => ?_)
    · have hC : ¬ (an < 8 ∧ inR x 6 ∧ inL 0 1000000 v ∧ inL 0 1000000000 u) := fun q => by first | exact absurd q.2.2.2 (bI_0.mp h4) | exact absurd q.2.2.1 (bI_0.mp h3) | exact absurd q.2.1 (bI_0.mp h2) | (have := q.1; omega)
      refine lv_iconst (v := (-1)) hx hb d_O_ask_39 (by decide) ?_
      have ew5 : pd = (if (an < 8 ∧ inR x 6 ∧ inL 0 1000000 v ∧ inL 0 1000000000 u) then updN pd an (nOf x) else pd) := (if_neg hC).symm
      have hP : va_P D cls (fl [(wO kC ad td rn pn an jn tn bm fw gp ga bp fc fj rA rC ft kd aG sR sT wh dY (if (an < 8 ∧ inR x 6 ∧ inL 0 1000000 v ∧ inL 0 1000000000 u) then updN pd an (nOf x) else pd) cN mN sv nd wr tl lt lT lD gv gn od br)]) s.heap := by rw [← ew5]; exact hP
      have hD : va_D A (fl [(wO kC ad td rn pn an jn tn bm fw gp ga bp fc fj rA rC ft kd aG sR sT wh dY (if (an < 8 ∧ inR x 6 ∧ inL 0 1000000 v ∧ inL 0 1000000000 u) then updN pd an (nOf x) else pd) cN mN sv nd wr tl lt lT lD gv gn od br)]) := by rw [← ew5]; exact hD
      have ew6 : cN = (if (an < 8 ∧ inR x 6 ∧ inL 0 1000000 v ∧ inL 0 1000000000 u) then updN cN an (nOfL v) else cN) := (if_neg hC).symm
      have hP : va_P D cls (fl [(wO kC ad td rn pn an jn tn bm fw gp ga bp fc fj rA rC ft kd aG sR sT wh dY (if (an < 8 ∧ inR x 6 ∧ inL 0 1000000 v ∧ inL 0 1000000000 u) then updN pd an (nOf x) else pd) (if (an < 8 ∧ inR x 6 ∧ inL 0 1000000 v ∧ inL 0 1000000000 u) then updN cN an (nOfL v) else cN) mN sv nd wr tl lt lT lD gv gn od br)]) s.heap := by rw [← ew6]; exact hP
      have hD : va_D A (fl [(wO kC ad td rn pn an jn tn bm fw gp ga bp fc fj rA rC ft kd aG sR sT wh dY (if (an < 8 ∧ inR x 6 ∧ inL 0 1000000 v ∧ inL 0 1000000000 u) then updN pd an (nOf x) else pd) (if (an < 8 ∧ inR x 6 ∧ inL 0 1000000 v ∧ inL 0 1000000000 u) then updN cN an (nOfL v) else cN) mN sv nd wr tl lt lT lD gv gn od br)]) := by rw [← ew6]; exact hD
      have ew7 : mN = (if (an < 8 ∧ inR x 6 ∧ inL 0 1000000 v ∧ inL 0 1000000000 u) then updN mN an (nOfL u) else mN) := (if_neg hC).symm
      have hP : va_P D cls (fl [(wO kC ad td rn pn an jn tn bm fw gp ga bp fc fj rA rC ft kd aG sR sT wh dY (if (an < 8 ∧ inR x 6 ∧ inL 0 1000000 v ∧ inL 0 1000000000 u) then updN pd an (nOf x) else pd) (if (an < 8 ∧ inR x 6 ∧ inL 0 1000000 v ∧ inL 0 1000000000 u) then updN cN an (nOfL v) else cN) (if (an < 8 ∧ inR x 6 ∧ inL 0 1000000 v ∧ inL 0 1000000000 u) then updN mN an (nOfL u) else mN) sv nd wr tl lt lT lD gv gn od br)]) s.heap := by rw [← ew7]; exact hP
      have hD : va_D A (fl [(wO kC ad td rn pn an jn tn bm fw gp ga bp fc fj rA rC ft kd aG sR sT wh dY (if (an < 8 ∧ inR x 6 ∧ inL 0 1000000 v ∧ inL 0 1000000000 u) then updN pd an (nOf x) else pd) (if (an < 8 ∧ inR x 6 ∧ inL 0 1000000 v ∧ inL 0 1000000000 u) then updN cN an (nOfL v) else cN) (if (an < 8 ∧ inR x 6 ∧ inL 0 1000000 v ∧ inL 0 1000000000 u) then updN mN an (nOfL u) else mN) sv nd wr tl lt lT lD gv gn od br)]) := by rw [← ew7]; exact hD
      have ew8 : an = (if (an < 8 ∧ inR x 6 ∧ inL 0 1000000 v ∧ inL 0 1000000000 u) then an + 1 else an) := (if_neg hC).symm
      have hP : va_P D cls (fl [(wO kC ad td rn pn (if (an < 8 ∧ inR x 6 ∧ inL 0 1000000 v ∧ inL 0 1000000000 u) then an + 1 else an) jn tn bm fw gp ga bp fc fj rA rC ft kd aG sR sT wh dY (if (an < 8 ∧ inR x 6 ∧ inL 0 1000000 v ∧ inL 0 1000000000 u) then updN pd an (nOf x) else pd) (if (an < 8 ∧ inR x 6 ∧ inL 0 1000000 v ∧ inL 0 1000000000 u) then updN cN an (nOfL v) else cN) (if (an < 8 ∧ inR x 6 ∧ inL 0 1000000 v ∧ inL 0 1000000000 u) then updN mN an (nOfL u) else mN) sv nd wr tl lt lT lD gv gn od br)]) s.heap := by rw [← ew8]; exact hP
      have hD : va_D A (fl [(wO kC ad td rn pn (if (an < 8 ∧ inR x 6 ∧ inL 0 1000000 v ∧ inL 0 1000000000 u) then an + 1 else an) jn tn bm fw gp ga bp fc fj rA rC ft kd aG sR sT wh dY (if (an < 8 ∧ inR x 6 ∧ inL 0 1000000 v ∧ inL 0 1000000000 u) then updN pd an (nOf x) else pd) (if (an < 8 ∧ inR x 6 ∧ inL 0 1000000 v ∧ inL 0 1000000000 u) then updN cN an (nOfL v) else cN) (if (an < 8 ∧ inR x 6 ∧ inL 0 1000000 v ∧ inL 0 1000000000 u) then updN mN an (nOfL u) else mN) sv nd wr tl lt lT lD gv gn od br)]) := by rw [← ew8]; exact hD
      exact W.iret (v := (-1)) hx hb hr (fun t ht hW => by subst hAe; exact ⟨⟨(-1), (), rfl, (if_neg hC).symm, by rw [ht]; exact hP, va_K.moved hW.alike hK, hD⟩, hS.F ht⟩) (by subst hAe; exact hS.2.2) d_O_ask_40
    · have h2 := bI_n0.mp h2
      refine lv_lload_n hx hb d_O_ask_16 rfl (lv_at hl 2 rfl) ?_
      refine lv_lconst (v := lN 0) hx hb d_O_ask_17 (by decide) ?_
      refine lv_ldc2 (v := 1000000) hx hb hown (hts (.constantLong R_O 121 1000000) (by decide +kernel)) d_O_ask_18 ?_
      refine nv_topl (y := lN 1000000) (by decide +kernel) ?_
      refine r_calli (W.runS (As := [.long v, .long (lN 0), .long (lN 1000000)]) (rest := []) ⟨hx, hb, hml, hown, hts⟩ (c_O_isIn l v 0 1000000 (by decide) (by decide)) (cwS 3 hts g_O_ask_isIn rfl rfl rfl (by decide +kernel) ⟨Nat.le_of_ble_eq_true rfl, Nat.le_of_ble_eq_true rfl⟩) p0_preS rfl rfl hl.1 rfl (lv_room (Nat.le_of_ble_eq_true rfl)) d_O_ask_21 ⟨Nat.le_of_ble_eq_true rfl, Nat.le_of_ble_eq_true rfl⟩) ?_
      refine lv_if_eq (tgt := 39) hx hb d_O_ask_24 (by decide) (fun h3 => ?_) (fun h3 => ?_)
      · have hC : ¬ (an < 8 ∧ inR x 6 ∧ inL 0 1000000 v ∧ inL 0 1000000000 u) := fun q => by first | exact absurd q.2.2.2 (bI_0.mp h4) | exact absurd q.2.2.1 (bI_0.mp h3) | exact absurd q.2.1 (bI_0.mp h2) | (have := q.1; omega)
        refine lv_iconst (v := (-1)) hx hb d_O_ask_39 (by decide) ?_
        have ew9 : pd = (if (an < 8 ∧ inR x 6 ∧ inL 0 1000000 v ∧ inL 0 1000000000 u) then updN pd an (nOf x) else pd) := (if_neg hC).symm
        have hP : va_P D cls (fl [(wO kC ad td rn pn an jn tn bm fw gp ga bp fc fj rA rC ft kd aG sR sT wh dY (if (an < 8 ∧ inR x 6 ∧ inL 0 1000000 v ∧ inL 0 1000000000 u) then updN pd an (nOf x) else pd) cN mN sv nd wr tl lt lT lD gv gn od br)]) s.heap := by rw [← ew9]; exact hP
        have hD : va_D A (fl [(wO kC ad td rn pn an jn tn bm fw gp ga bp fc fj rA rC ft kd aG sR sT wh dY (if (an < 8 ∧ inR x 6 ∧ inL 0 1000000 v ∧ inL 0 1000000000 u) then updN pd an (nOf x) else pd) cN mN sv nd wr tl lt lT lD gv gn od br)]) := by rw [← ew9]; exact hD
        have ew10 : cN = (if (an < 8 ∧ inR x 6 ∧ inL 0 1000000 v ∧ inL 0 1000000000 u) then updN cN an (nOfL v) else cN) := (if_neg hC).symm
        have hP : va_P D cls (fl [(wO kC ad td rn pn an jn tn bm fw gp ga bp fc fj rA rC ft kd aG sR sT wh dY (if (an < 8 ∧ inR x 6 ∧ inL 0 1000000 v ∧ inL 0 1000000000 u) then updN pd an (nOf x) else pd) (if (an < 8 ∧ inR x 6 ∧ inL 0 1000000 v ∧ inL 0 1000000000 u) then updN cN an (nOfL v) else cN) mN sv nd wr tl lt lT lD gv gn od br)]) s.heap := by rw [← ew10]; exact hP
        have hD : va_D A (fl [(wO kC ad td rn pn an jn tn bm fw gp ga bp fc fj rA rC ft kd aG sR sT wh dY (if (an < 8 ∧ inR x 6 ∧ inL 0 1000000 v ∧ inL 0 1000000000 u) then updN pd an (nOf x) else pd) (if (an < 8 ∧ inR x 6 ∧ inL 0 1000000 v ∧ inL 0 1000000000 u) then updN cN an (nOfL v) else cN) mN sv nd wr tl lt lT lD gv gn od br)]) := by rw [← ew10]; exact hD
        have ew11 : mN = (if (an < 8 ∧ inR x 6 ∧ inL 0 1000000 v ∧ inL 0 1000000000 u) then updN mN an (nOfL u) else mN) := (if_neg hC).symm
        have hP : va_P D cls (fl [(wO kC ad td rn pn an jn tn bm fw gp ga bp fc fj rA rC ft kd aG sR sT wh dY (if (an < 8 ∧ inR x 6 ∧ inL 0 1000000 v ∧ inL 0 1000000000 u) then updN pd an (nOf x) else pd) (if (an < 8 ∧ inR x 6 ∧ inL 0 1000000 v ∧ inL 0 1000000000 u) then updN cN an (nOfL v) else cN) (if (an < 8 ∧ inR x 6 ∧ inL 0 1000000 v ∧ inL 0 1000000000 u) then updN mN an (nOfL u) else mN) sv nd wr tl lt lT lD gv gn od br)]) s.heap := by rw [← ew11]; exact hP
        have hD : va_D A (fl [(wO kC ad td rn pn an jn tn bm fw gp ga bp fc fj rA rC ft kd aG sR sT wh dY (if (an < 8 ∧ inR x 6 ∧ inL 0 1000000 v ∧ inL 0 1000000000 u) then updN pd an (nOf x) else pd) (if (an < 8 ∧ inR x 6 ∧ inL 0 1000000 v ∧ inL 0 1000000000 u) then updN cN an (nOfL v) else cN) (if (an < 8 ∧ inR x 6 ∧ inL 0 1000000 v ∧ inL 0 1000000000 u) then updN mN an (nOfL u) else mN) sv nd wr tl lt lT lD gv gn od br)]) := by rw [← ew11]; exact hD
        have ew12 : an = (if (an < 8 ∧ inR x 6 ∧ inL 0 1000000 v ∧ inL 0 1000000000 u) then an + 1 else an) := (if_neg hC).symm
        have hP : va_P D cls (fl [(wO kC ad td rn pn (if (an < 8 ∧ inR x 6 ∧ inL 0 1000000 v ∧ inL 0 1000000000 u) then an + 1 else an) jn tn bm fw gp ga bp fc fj rA rC ft kd aG sR sT wh dY (if (an < 8 ∧ inR x 6 ∧ inL 0 1000000 v ∧ inL 0 1000000000 u) then updN pd an (nOf x) else pd) (if (an < 8 ∧ inR x 6 ∧ inL 0 1000000 v ∧ inL 0 1000000000 u) then updN cN an (nOfL v) else cN) (if (an < 8 ∧ inR x 6 ∧ inL 0 1000000 v ∧ inL 0 1000000000 u) then updN mN an (nOfL u) else mN) sv nd wr tl lt lT lD gv gn od br)]) s.heap := by rw [← ew12]; exact hP
        have hD : va_D A (fl [(wO kC ad td rn pn (if (an < 8 ∧ inR x 6 ∧ inL 0 1000000 v ∧ inL 0 1000000000 u) then an + 1 else an) jn tn bm fw gp ga bp fc fj rA rC ft kd aG sR sT wh dY (if (an < 8 ∧ inR x 6 ∧ inL 0 1000000 v ∧ inL 0 1000000000 u) then updN pd an (nOf x) else pd) (if (an < 8 ∧ inR x 6 ∧ inL 0 1000000 v ∧ inL 0 1000000000 u) then updN cN an (nOfL v) else cN) (if (an < 8 ∧ inR x 6 ∧ inL 0 1000000 v ∧ inL 0 1000000000 u) then updN mN an (nOfL u) else mN) sv nd wr tl lt lT lD gv gn od br)]) := by rw [← ew12]; exact hD
        exact W.iret (v := (-1)) hx hb hr (fun t ht hW => by subst hAe; exact ⟨⟨(-1), (), rfl, (if_neg hC).symm, by rw [ht]; exact hP, va_K.moved hW.alike hK, hD⟩, hS.F ht⟩) (by subst hAe; exact hS.2.2) d_O_ask_40
      · have h3 := bI_n0.mp h3
        refine lv_lload hx hb d_O_ask_27 (lv_at hl 3 rfl) ?_
        refine lv_lconst (v := lN 0) hx hb d_O_ask_29 (by decide) ?_
        refine lv_ldc2 (v := 1000000000) hx hb hown (hts (.constantLong R_O 106 1000000000) (by decide +kernel)) d_O_ask_30 ?_
        refine nv_topl (y := lN 1000000000) (by decide +kernel) ?_
        refine r_calli (W.runS (As := [.long u, .long (lN 0), .long (lN 1000000000)]) (rest := []) ⟨hx, hb, hml, hown, hts⟩ (c_O_isIn l u 0 1000000000 (by decide) (by decide)) (cwS 3 hts g_O_ask_isIn rfl rfl rfl (by decide +kernel) ⟨Nat.le_of_ble_eq_true rfl, Nat.le_of_ble_eq_true rfl⟩) p0_preS rfl rfl hl.1 rfl (lv_room (Nat.le_of_ble_eq_true rfl)) d_O_ask_33 ⟨Nat.le_of_ble_eq_true rfl, Nat.le_of_ble_eq_true rfl⟩) ?_
        refine lv_if_ne (tgt := 41) hx hb d_O_ask_36 (by decide) (fun h4 => ?_) (fun h4 => ?_)
        · have h4 := bI_n0.mp h4
          have hC : (an < 8 ∧ inR x 6 ∧ inL 0 1000000 v ∧ inL 0 1000000000 u) := ⟨by omega, h2, h3, h4⟩
          obtain ⟨j, hj, rfl⟩ := inR_n (by decide) h2
          obtain ⟨k, hk1, hk2, rfl⟩ := inL_n (by decide) h3
          obtain ⟨i, hi1, hi2, rfl⟩ := inL_n (by decide) h4
          refine lv_aload_n hx hb d_O_ask_41 rfl (lv_at hl 0 rfl) ?_
          refine fv_get (ci := 7) (v := .ref (ad 10)) (C := R_O) (T := F_O) (N := 36) hx hb hts (by decide +kernel) hown hK hP 0 0 rfl rfl rfl 13 (by decide) (hts (.fieldLink R_O 39 "PartShelvesModel" "products" "[I") (by decide +kernel)) (fun _ h9 => h9) rfl d_O_ask_42 ?_
          refine lv_aload_n hx hb d_O_ask_45 rfl (lv_at hl 0 rfl) ?_
          refine fv_get (ci := 7) (v := .int (nI an)) (C := R_O) (T := F_O) (N := 36) hx hb hts (by decide +kernel) hown hK hP 0 0 rfl rfl rfl 12 (by decide) (hts (.fieldLink R_O 85 "PartShelvesModel" "asks" "I") (by decide +kernel)) (fun _ h9 => h9) rfl d_O_ask_46 ?_
          refine lv_iload_n hx hb d_O_ask_49 rfl (lv_at hl 1 rfl) ?_
          refine fa_iastN hx hb hK hP hD hS 0 10 0 rfl rfl rfl (by omega) (by decide) d_O_ask_50 (fun H locs hP hD hS => ?_)
          have hP : va_P D cls (fl [(wO kC ad td rn pn an jn tn bm fw gp ga bp fc fj rA rC ft kd aG sR sT wh dY (updN pd an j) cN mN sv nd wr tl lt lT lD gv gn od br)]) H := hP
          have hD : va_D A (fl [(wO kC ad td rn pn an jn tn bm fw gp ga bp fc fj rA rC ft kd aG sR sT wh dY (updN pd an j) cN mN sv nd wr tl lt lT lD gv gn od br)]) := hD
          refine lv_aload_n hx hb d_O_ask_51 rfl (lv_at hl 0 rfl) ?_
          refine fv_get (ci := 7) (v := .ref (ad 11)) (C := R_O) (T := F_O) (N := 36) hx hb hts (by decide +kernel) hown hK hP 0 0 rfl rfl rfl 14 (by decide) (hts (.fieldLink R_O 42 "PartShelvesModel" "cents" "[J") (by decide +kernel)) (fun _ h9 => h9) rfl d_O_ask_52 ?_
          refine lv_aload_n hx hb d_O_ask_55 rfl (lv_at hl 0 rfl) ?_
          refine fv_get (ci := 7) (v := .int (nI an)) (C := R_O) (T := F_O) (N := 36) hx hb hts (by decide +kernel) hown hK hP 0 0 rfl rfl rfl 12 (by decide) (hts (.fieldLink R_O 85 "PartShelvesModel" "asks" "I") (by decide +kernel)) (fun _ h9 => h9) rfl d_O_ask_56 ?_
          refine lv_lload_n hx hb d_O_ask_59 rfl (lv_at hl 2 rfl) ?_
          refine fa_lastN hx hb hK hP hD hS 0 11 1 rfl rfl rfl (by omega) (by decide) d_O_ask_60 (fun H locs hP hD hS => ?_)
          have hP : va_P D cls (fl [(wO kC ad td rn pn an jn tn bm fw gp ga bp fc fj rA rC ft kd aG sR sT wh dY (updN pd an j) (updN cN an k) mN sv nd wr tl lt lT lD gv gn od br)]) H := hP
          have hD : va_D A (fl [(wO kC ad td rn pn an jn tn bm fw gp ga bp fc fj rA rC ft kd aG sR sT wh dY (updN pd an j) (updN cN an k) mN sv nd wr tl lt lT lD gv gn od br)]) := hD
          refine lv_aload_n hx hb d_O_ask_61 rfl (lv_at hl 0 rfl) ?_
          refine fv_get (ci := 7) (v := .ref (ad 12)) (C := R_O) (T := F_O) (N := 36) hx hb hts (by decide +kernel) hown hK hP 0 0 rfl rfl rfl 15 (by decide) (hts (.fieldLink R_O 45 "PartShelvesModel" "minutes" "[J") (by decide +kernel)) (fun _ h9 => h9) rfl d_O_ask_62 ?_
          refine lv_aload_n hx hb d_O_ask_65 rfl (lv_at hl 0 rfl) ?_
          refine fv_get (ci := 7) (v := .int (nI an)) (C := R_O) (T := F_O) (N := 36) hx hb hts (by decide +kernel) hown hK hP 0 0 rfl rfl rfl 12 (by decide) (hts (.fieldLink R_O 85 "PartShelvesModel" "asks" "I") (by decide +kernel)) (fun _ h9 => h9) rfl d_O_ask_66 ?_
          refine lv_lload hx hb d_O_ask_69 (lv_at hl 3 rfl) ?_
          refine fa_lastN hx hb hK hP hD hS 0 12 1 rfl rfl rfl (by omega) (by decide) d_O_ask_71 (fun H locs hP hD hS => ?_)
          have hP : va_P D cls (fl [(wO kC ad td rn pn an jn tn bm fw gp ga bp fc fj rA rC ft kd aG sR sT wh dY (updN pd an j) (updN cN an k) (updN mN an i) sv nd wr tl lt lT lD gv gn od br)]) H := hP
          have hD : va_D A (fl [(wO kC ad td rn pn an jn tn bm fw gp ga bp fc fj rA rC ft kd aG sR sT wh dY (updN pd an j) (updN cN an k) (updN mN an i) sv nd wr tl lt lT lD gv gn od br)]) := hD
          refine lv_aload_n hx hb d_O_ask_72 rfl (lv_at hl 0 rfl) ?_
          refine lv_dup hx hb d_O_ask_73 rfl ?_
          refine fv_get (ci := 7) (v := .int (nI an)) (C := R_O) (T := F_O) (N := 36) hx hb hts (by decide +kernel) hown hK hP 0 0 rfl rfl rfl 12 (by decide) (hts (.fieldLink R_O 85 "PartShelvesModel" "asks" "I") (by decide +kernel)) (fun _ h9 => h9) rfl d_O_ask_74 ?_
          refine lv_iconst (v := nI 1) hx hb d_O_ask_77 (by decide) ?_
          refine nv_iadd hx hb d_O_ask_78 ?_
          refine fv_put (ci := 7) (v := .int (nI (an + 1))) (ty := (.int)) (C := R_O) (T := F_O) (N := 36) hx hb hts (by decide +kernel) t_O t_O_ok n_O hown hK hP hD hS 0 0 rfl rfl rfl 12 (by decide) (hts (.fieldLink R_O 85 "PartShelvesModel" "asks" "I") (by decide +kernel)) (fun _ h9 => h9) rfl (by decide +kernel) (rfl) (rfl) (Nat.le_of_ble_eq_true rfl) d_O_ask_79 (fun H locs hP hD hS => ?_)
          have hP : va_P D cls (fl [(wO kC ad td rn pn (an + 1) jn tn bm fw gp ga bp fc fj rA rC ft kd aG sR sT wh dY (updN pd an j) (updN cN an k) (updN mN an i) sv nd wr tl lt lT lD gv gn od br)]) H := hP
          have hD : va_D A (fl [(wO kC ad td rn pn (an + 1) jn tn bm fw gp ga bp fc fj rA rC ft kd aG sR sT wh dY (updN pd an j) (updN cN an k) (updN mN an i) sv nd wr tl lt lT lD gv gn od br)]) := hD
          refine lv_aload_n hx hb d_O_ask_82 rfl (lv_at hl 0 rfl) ?_
          refine fv_get (ci := 7) (v := .int (nI (an + 1))) (C := R_O) (T := F_O) (N := 36) hx hb hts (by decide +kernel) hown hK hP 0 0 rfl rfl rfl 12 (by decide) (hts (.fieldLink R_O 85 "PartShelvesModel" "asks" "I") (by decide +kernel)) (fun _ h9 => h9) rfl d_O_ask_83 ?_
          refine lv_iconst (v := nI 1) hx hb d_O_ask_86 (by decide) ?_
          refine nv_isub hx hb d_O_ask_87 (by omega) ?_
          have ew13 : (updN pd an j) = (if (an < 8 ∧ inR (nI j) 6 ∧ inL 0 1000000 (lN k) ∧ inL 0 1000000000 (lN i)) then updN pd an (nOf (nI j)) else pd) := by rw [if_pos hC, nOf_nI (by omega)]
          have hP : va_P D cls (fl [(wO kC ad td rn pn (an + 1) jn tn bm fw gp ga bp fc fj rA rC ft kd aG sR sT wh dY (if (an < 8 ∧ inR (nI j) 6 ∧ inL 0 1000000 (lN k) ∧ inL 0 1000000000 (lN i)) then updN pd an (nOf (nI j)) else pd) (updN cN an k) (updN mN an i) sv nd wr tl lt lT lD gv gn od br)]) H := by rw [← ew13]; exact hP
          have hD : va_D A (fl [(wO kC ad td rn pn (an + 1) jn tn bm fw gp ga bp fc fj rA rC ft kd aG sR sT wh dY (if (an < 8 ∧ inR (nI j) 6 ∧ inL 0 1000000 (lN k) ∧ inL 0 1000000000 (lN i)) then updN pd an (nOf (nI j)) else pd) (updN cN an k) (updN mN an i) sv nd wr tl lt lT lD gv gn od br)]) := by rw [← ew13]; exact hD
          have ew14 : (updN cN an k) = (if (an < 8 ∧ inR (nI j) 6 ∧ inL 0 1000000 (lN k) ∧ inL 0 1000000000 (lN i)) then updN cN an (nOfL (lN k)) else cN) := by rw [if_pos hC, nOfL_lN (by omega)]
          have hP : va_P D cls (fl [(wO kC ad td rn pn (an + 1) jn tn bm fw gp ga bp fc fj rA rC ft kd aG sR sT wh dY (if (an < 8 ∧ inR (nI j) 6 ∧ inL 0 1000000 (lN k) ∧ inL 0 1000000000 (lN i)) then updN pd an (nOf (nI j)) else pd) (if (an < 8 ∧ inR (nI j) 6 ∧ inL 0 1000000 (lN k) ∧ inL 0 1000000000 (lN i)) then updN cN an (nOfL (lN k)) else cN) (updN mN an i) sv nd wr tl lt lT lD gv gn od br)]) H := by rw [← ew14]; exact hP
          have hD : va_D A (fl [(wO kC ad td rn pn (an + 1) jn tn bm fw gp ga bp fc fj rA rC ft kd aG sR sT wh dY (if (an < 8 ∧ inR (nI j) 6 ∧ inL 0 1000000 (lN k) ∧ inL 0 1000000000 (lN i)) then updN pd an (nOf (nI j)) else pd) (if (an < 8 ∧ inR (nI j) 6 ∧ inL 0 1000000 (lN k) ∧ inL 0 1000000000 (lN i)) then updN cN an (nOfL (lN k)) else cN) (updN mN an i) sv nd wr tl lt lT lD gv gn od br)]) := by rw [← ew14]; exact hD
          have ew15 : (updN mN an i) = (if (an < 8 ∧ inR (nI j) 6 ∧ inL 0 1000000 (lN k) ∧ inL 0 1000000000 (lN i)) then updN mN an (nOfL (lN i)) else mN) := by rw [if_pos hC, nOfL_lN (by omega)]
          have hP : va_P D cls (fl [(wO kC ad td rn pn (an + 1) jn tn bm fw gp ga bp fc fj rA rC ft kd aG sR sT wh dY (if (an < 8 ∧ inR (nI j) 6 ∧ inL 0 1000000 (lN k) ∧ inL 0 1000000000 (lN i)) then updN pd an (nOf (nI j)) else pd) (if (an < 8 ∧ inR (nI j) 6 ∧ inL 0 1000000 (lN k) ∧ inL 0 1000000000 (lN i)) then updN cN an (nOfL (lN k)) else cN) (if (an < 8 ∧ inR (nI j) 6 ∧ inL 0 1000000 (lN k) ∧ inL 0 1000000000 (lN i)) then updN mN an (nOfL (lN i)) else mN) sv nd wr tl lt lT lD gv gn od br)]) H := by rw [← ew15]; exact hP
          have hD : va_D A (fl [(wO kC ad td rn pn (an + 1) jn tn bm fw gp ga bp fc fj rA rC ft kd aG sR sT wh dY (if (an < 8 ∧ inR (nI j) 6 ∧ inL 0 1000000 (lN k) ∧ inL 0 1000000000 (lN i)) then updN pd an (nOf (nI j)) else pd) (if (an < 8 ∧ inR (nI j) 6 ∧ inL 0 1000000 (lN k) ∧ inL 0 1000000000 (lN i)) then updN cN an (nOfL (lN k)) else cN) (if (an < 8 ∧ inR (nI j) 6 ∧ inL 0 1000000 (lN k) ∧ inL 0 1000000000 (lN i)) then updN mN an (nOfL (lN i)) else mN) sv nd wr tl lt lT lD gv gn od br)]) := by rw [← ew15]; exact hD
          have ew16 : (an + 1) = (if (an < 8 ∧ inR (nI j) 6 ∧ inL 0 1000000 (lN k) ∧ inL 0 1000000000 (lN i)) then an + 1 else an) := by rw [if_pos hC]
          have hP : va_P D cls (fl [(wO kC ad td rn pn (if (an < 8 ∧ inR (nI j) 6 ∧ inL 0 1000000 (lN k) ∧ inL 0 1000000000 (lN i)) then an + 1 else an) jn tn bm fw gp ga bp fc fj rA rC ft kd aG sR sT wh dY (if (an < 8 ∧ inR (nI j) 6 ∧ inL 0 1000000 (lN k) ∧ inL 0 1000000000 (lN i)) then updN pd an (nOf (nI j)) else pd) (if (an < 8 ∧ inR (nI j) 6 ∧ inL 0 1000000 (lN k) ∧ inL 0 1000000000 (lN i)) then updN cN an (nOfL (lN k)) else cN) (if (an < 8 ∧ inR (nI j) 6 ∧ inL 0 1000000 (lN k) ∧ inL 0 1000000000 (lN i)) then updN mN an (nOfL (lN i)) else mN) sv nd wr tl lt lT lD gv gn od br)]) H := by rw [← ew16]; exact hP
          have hD : va_D A (fl [(wO kC ad td rn pn (if (an < 8 ∧ inR (nI j) 6 ∧ inL 0 1000000 (lN k) ∧ inL 0 1000000000 (lN i)) then an + 1 else an) jn tn bm fw gp ga bp fc fj rA rC ft kd aG sR sT wh dY (if (an < 8 ∧ inR (nI j) 6 ∧ inL 0 1000000 (lN k) ∧ inL 0 1000000000 (lN i)) then updN pd an (nOf (nI j)) else pd) (if (an < 8 ∧ inR (nI j) 6 ∧ inL 0 1000000 (lN k) ∧ inL 0 1000000000 (lN i)) then updN cN an (nOfL (lN k)) else cN) (if (an < 8 ∧ inR (nI j) 6 ∧ inL 0 1000000 (lN k) ∧ inL 0 1000000000 (lN i)) then updN mN an (nOfL (lN i)) else mN) sv nd wr tl lt lT lD gv gn od br)]) := by rw [← ew16]; exact hD
          exact W.iret (v := nI ((an + 1) - 1)) hx hb hr (fun t ht hW => by subst hAe; exact ⟨⟨(nI ((an + 1) - 1)), (), rfl, (if_pos hC).symm, by rw [ht]; exact hP, va_K.moved hW.alike hK, hD⟩, hS.F ht⟩) (by subst hAe; exact hS.2.2) d_O_ask_88
        · have hC : ¬ (an < 8 ∧ inR x 6 ∧ inL 0 1000000 v ∧ inL 0 1000000000 u) := fun q => by first | exact absurd q.2.2.2 (bI_0.mp h4) | exact absurd q.2.2.1 (bI_0.mp h3) | exact absurd q.2.1 (bI_0.mp h2) | (have := q.1; omega)
          refine lv_iconst (v := (-1)) hx hb d_O_ask_39 (by decide) ?_
          have ew17 : pd = (if (an < 8 ∧ inR x 6 ∧ inL 0 1000000 v ∧ inL 0 1000000000 u) then updN pd an (nOf x) else pd) := (if_neg hC).symm
          have hP : va_P D cls (fl [(wO kC ad td rn pn an jn tn bm fw gp ga bp fc fj rA rC ft kd aG sR sT wh dY (if (an < 8 ∧ inR x 6 ∧ inL 0 1000000 v ∧ inL 0 1000000000 u) then updN pd an (nOf x) else pd) cN mN sv nd wr tl lt lT lD gv gn od br)]) s.heap := by rw [← ew17]; exact hP
          have hD : va_D A (fl [(wO kC ad td rn pn an jn tn bm fw gp ga bp fc fj rA rC ft kd aG sR sT wh dY (if (an < 8 ∧ inR x 6 ∧ inL 0 1000000 v ∧ inL 0 1000000000 u) then updN pd an (nOf x) else pd) cN mN sv nd wr tl lt lT lD gv gn od br)]) := by rw [← ew17]; exact hD
          have ew18 : cN = (if (an < 8 ∧ inR x 6 ∧ inL 0 1000000 v ∧ inL 0 1000000000 u) then updN cN an (nOfL v) else cN) := (if_neg hC).symm
          have hP : va_P D cls (fl [(wO kC ad td rn pn an jn tn bm fw gp ga bp fc fj rA rC ft kd aG sR sT wh dY (if (an < 8 ∧ inR x 6 ∧ inL 0 1000000 v ∧ inL 0 1000000000 u) then updN pd an (nOf x) else pd) (if (an < 8 ∧ inR x 6 ∧ inL 0 1000000 v ∧ inL 0 1000000000 u) then updN cN an (nOfL v) else cN) mN sv nd wr tl lt lT lD gv gn od br)]) s.heap := by rw [← ew18]; exact hP
          have hD : va_D A (fl [(wO kC ad td rn pn an jn tn bm fw gp ga bp fc fj rA rC ft kd aG sR sT wh dY (if (an < 8 ∧ inR x 6 ∧ inL 0 1000000 v ∧ inL 0 1000000000 u) then updN pd an (nOf x) else pd) (if (an < 8 ∧ inR x 6 ∧ inL 0 1000000 v ∧ inL 0 1000000000 u) then updN cN an (nOfL v) else cN) mN sv nd wr tl lt lT lD gv gn od br)]) := by rw [← ew18]; exact hD
          have ew19 : mN = (if (an < 8 ∧ inR x 6 ∧ inL 0 1000000 v ∧ inL 0 1000000000 u) then updN mN an (nOfL u) else mN) := (if_neg hC).symm
          have hP : va_P D cls (fl [(wO kC ad td rn pn an jn tn bm fw gp ga bp fc fj rA rC ft kd aG sR sT wh dY (if (an < 8 ∧ inR x 6 ∧ inL 0 1000000 v ∧ inL 0 1000000000 u) then updN pd an (nOf x) else pd) (if (an < 8 ∧ inR x 6 ∧ inL 0 1000000 v ∧ inL 0 1000000000 u) then updN cN an (nOfL v) else cN) (if (an < 8 ∧ inR x 6 ∧ inL 0 1000000 v ∧ inL 0 1000000000 u) then updN mN an (nOfL u) else mN) sv nd wr tl lt lT lD gv gn od br)]) s.heap := by rw [← ew19]; exact hP
          have hD : va_D A (fl [(wO kC ad td rn pn an jn tn bm fw gp ga bp fc fj rA rC ft kd aG sR sT wh dY (if (an < 8 ∧ inR x 6 ∧ inL 0 1000000 v ∧ inL 0 1000000000 u) then updN pd an (nOf x) else pd) (if (an < 8 ∧ inR x 6 ∧ inL 0 1000000 v ∧ inL 0 1000000000 u) then updN cN an (nOfL v) else cN) (if (an < 8 ∧ inR x 6 ∧ inL 0 1000000 v ∧ inL 0 1000000000 u) then updN mN an (nOfL u) else mN) sv nd wr tl lt lT lD gv gn od br)]) := by rw [← ew19]; exact hD
          have ew20 : an = (if (an < 8 ∧ inR x 6 ∧ inL 0 1000000 v ∧ inL 0 1000000000 u) then an + 1 else an) := (if_neg hC).symm
          have hP : va_P D cls (fl [(wO kC ad td rn pn (if (an < 8 ∧ inR x 6 ∧ inL 0 1000000 v ∧ inL 0 1000000000 u) then an + 1 else an) jn tn bm fw gp ga bp fc fj rA rC ft kd aG sR sT wh dY (if (an < 8 ∧ inR x 6 ∧ inL 0 1000000 v ∧ inL 0 1000000000 u) then updN pd an (nOf x) else pd) (if (an < 8 ∧ inR x 6 ∧ inL 0 1000000 v ∧ inL 0 1000000000 u) then updN cN an (nOfL v) else cN) (if (an < 8 ∧ inR x 6 ∧ inL 0 1000000 v ∧ inL 0 1000000000 u) then updN mN an (nOfL u) else mN) sv nd wr tl lt lT lD gv gn od br)]) s.heap := by rw [← ew20]; exact hP
          have hD : va_D A (fl [(wO kC ad td rn pn (if (an < 8 ∧ inR x 6 ∧ inL 0 1000000 v ∧ inL 0 1000000000 u) then an + 1 else an) jn tn bm fw gp ga bp fc fj rA rC ft kd aG sR sT wh dY (if (an < 8 ∧ inR x 6 ∧ inL 0 1000000 v ∧ inL 0 1000000000 u) then updN pd an (nOf x) else pd) (if (an < 8 ∧ inR x 6 ∧ inL 0 1000000 v ∧ inL 0 1000000000 u) then updN cN an (nOfL v) else cN) (if (an < 8 ∧ inR x 6 ∧ inL 0 1000000 v ∧ inL 0 1000000000 u) then updN mN an (nOfL u) else mN) sv nd wr tl lt lT lD gv gn od br)]) := by rw [← ew20]; exact hD
          exact W.iret (v := (-1)) hx hb hr (fun t ht hW => by subst hAe; exact ⟨⟨(-1), (), rfl, (if_neg hC).symm, by rw [ht]; exact hP, va_K.moved hW.alike hK, hD⟩, hS.F ht⟩) (by subst hAe; exact hS.2.2) d_O_ask_40
end
section
theorem sl31 : ∀ n, n < 32 → ((nI n &&& 31).toBitVec.smod 32).toNat = n := by decide +kernel
theorem bitI {f j : Nat} (hf : f < 2 ^ 31) (hj : j < 31) : nI f >>> (nI j &&& 31) &&& nI 1 = nI (f / 2 ^ j % 2) := by
  rw [pk_shrN hf (nI j &&& 31) j (sl31 j (by omega)), nx_and, Nat.and_one_is_mod]
/-- the k-th late tool -/
def lateM (lt : Nat → Int32) (lD : Nat → Nat) (td : Nat) (x : Int32) : Nat → Nat → Nat → Int32
  | 0, _, _ => -1
  | f + 1, t, z => if ¬ lt t = 0 ∧ lD t < td then (if nI z = x then nI t else lateM lt lD td x f (t + 1) (z + 1)) else lateM lt lD td x f (t + 1) z
/-- a part is meant by a recall -/
abbrev rcC (kd sR : Nat → Nat) (k : Nat) (v u : Int64) (i : Nat) : Prop := kd i = k ∧ v ≤ lN (sR i) ∧ lN (sR i) ≤ u
def rcT (kd sR sT : Nat → Nat) (k : Nat) (v u : Int64) : Nat → Nat
  | 0 => 0
  | i + 1 => if rcC kd sR k v u i ∧ sT i = 2 then rcT kd sR sT k v u i + 1 else rcT kd sR sT k v u i
def rcL (kd sR sT wh tl : Nat → Nat) (k : Nat) (v u : Int64) : Nat → Nat → Nat
  | 0 => tl
  | i + 1 => if rcC kd sR k v u i ∧ sT i = 2 then updN (rcL kd sR sT wh tl k v u i) (rcT kd sR sT k v u i) (10 * i + wh i) else rcL kd sR sT wh tl k v u i
def rcS (kd sR sT : Nat → Nat) (k : Nat) (v u : Int64) : Nat → Nat → Nat
  | 0 => sT
  | i + 1 => if rcC kd sR k v u i ∧ ¬ sT i = 2 then updN (rcS kd sR sT k v u i) i 3 else rcS kd sR sT k v u i
theorem rcT_le (kd sR sT : Nat → Nat) (k : Nat) (v u : Int64) : ∀ i, rcT kd sR sT k v u i ≤ i
  | 0 => Nat.le_refl 0
  | i + 1 => by
    have := rcT_le kd sR sT k v u i
    show (if rcC kd sR k v u i ∧ sT i = 2 then rcT kd sR sT k v u i + 1 else rcT kd sR sT k v u i) ≤ i + 1
    split <;> omega
theorem rcS_ge (kd sR sT : Nat → Nat) (k : Nat) (v u : Int64) {j : Nat} : ∀ i, i ≤ j → rcS kd sR sT k v u i j = sT j
  | 0, _ => rfl
  | i + 1, h => by
    show (if rcC kd sR k v u i ∧ ¬ sT i = 2 then updN (rcS kd sR sT k v u i) i 3 else rcS kd sR sT k v u i) j = sT j
    split
    · rw [updN_n _ _ (by omega)]; exact rcS_ge kd sR sT k v u i (by omega)
    · exact rcS_ge kd sR sT k v u i (by omega)
abbrev b_O_isPair : ByteArray := prog_9_method_18_code
def y_O_isPair : MethodName := ⟨"PartShelvesModel", "isPair", "(II)Z"⟩
theorem d_O_isPair_0 : decode b_O_isPair 0 = .ok (.aload_n 0, 1) := by decide +kernel
theorem d_O_isPair_1 : decode b_O_isPair 1 = .ok (.iload_n 1, 1) := by decide +kernel
theorem d_O_isPair_2 : decode b_O_isPair 2 = .ok (.invokevirtual 117, 3) := by decide +kernel
theorem d_O_isPair_5 : decode b_O_isPair 5 = .ok (.ifCond .eq 22, 3) := by decide +kernel
theorem d_O_isPair_8 : decode b_O_isPair 8 = .ok (.aload_n 0, 1) := by decide +kernel
theorem d_O_isPair_9 : decode b_O_isPair 9 = .ok (.iload_n 1, 1) := by decide +kernel
theorem d_O_isPair_10 : decode b_O_isPair 10 = .ok (.invokevirtual 117, 3) := by decide +kernel
theorem d_O_isPair_13 : decode b_O_isPair 13 = .ok (.iconst 1, 1) := by decide +kernel
theorem d_O_isPair_14 : decode b_O_isPair 14 = .ok (.if_icmp .ne 17, 3) := by decide +kernel
theorem d_O_isPair_17 : decode b_O_isPair 17 = .ok (.aload_n 0, 1) := by decide +kernel
theorem d_O_isPair_18 : decode b_O_isPair 18 = .ok (.getfield 33, 3) := by decide +kernel
theorem d_O_isPair_21 : decode b_O_isPair 21 = .ok (.iload_n 1, 1) := by decide +kernel
theorem d_O_isPair_22 : decode b_O_isPair 22 = .ok (.iaload, 1) := by decide +kernel
theorem d_O_isPair_23 : decode b_O_isPair 23 = .ok (.iload_n 2, 1) := by decide +kernel
theorem d_O_isPair_24 : decode b_O_isPair 24 = .ok (.if_icmp .ne 7, 3) := by decide +kernel
theorem d_O_isPair_27 : decode b_O_isPair 27 = .ok (.iconst 1, 1) := by decide +kernel
theorem d_O_isPair_28 : decode b_O_isPair 28 = .ok (.goto 4, 3) := by decide +kernel
theorem d_O_isPair_31 : decode b_O_isPair 31 = .ok (.iconst 0, 1) := by decide +kernel
theorem d_O_isPair_32 : decode b_O_isPair 32 = .ok (.istore_n 3, 1) := by decide +kernel
theorem d_O_isPair_33 : decode b_O_isPair 33 = .ok (.iload_n 3, 1) := by decide +kernel
theorem d_O_isPair_34 : decode b_O_isPair 34 = .ok (.ifCond .eq 54, 3) := by decide +kernel
theorem d_O_isPair_37 : decode b_O_isPair 37 = .ok (.aload_n 0, 1) := by decide +kernel
theorem d_O_isPair_38 : decode b_O_isPair 38 = .ok (.iload_n 2, 1) := by decide +kernel
theorem d_O_isPair_39 : decode b_O_isPair 39 = .ok (.invokevirtual 123, 3) := by decide +kernel
theorem d_O_isPair_42 : decode b_O_isPair 42 = .ok (.ifCond .eq 46, 3) := by decide +kernel
theorem d_O_isPair_45 : decode b_O_isPair 45 = .ok (.aload_n 0, 1) := by decide +kernel
theorem d_O_isPair_46 : decode b_O_isPair 46 = .ok (.getfield 17, 3) := by decide +kernel
theorem d_O_isPair_49 : decode b_O_isPair 49 = .ok (.bipush 6, 2) := by decide +kernel
theorem d_O_isPair_51 : decode b_O_isPair 51 = .ok (.aload_n 0, 1) := by decide +kernel
theorem d_O_isPair_52 : decode b_O_isPair 52 = .ok (.getfield 21, 3) := by decide +kernel
theorem d_O_isPair_55 : decode b_O_isPair 55 = .ok (.iload_n 1, 1) := by decide +kernel
theorem d_O_isPair_56 : decode b_O_isPair 56 = .ok (.iaload, 1) := by decide +kernel
theorem d_O_isPair_57 : decode b_O_isPair 57 = .ok (.imul, 1) := by decide +kernel
theorem d_O_isPair_58 : decode b_O_isPair 58 = .ok (.aload_n 0, 1) := by decide +kernel
theorem d_O_isPair_59 : decode b_O_isPair 59 = .ok (.getfield 39, 3) := by decide +kernel
theorem d_O_isPair_62 : decode b_O_isPair 62 = .ok (.iload_n 2, 1) := by decide +kernel
theorem d_O_isPair_63 : decode b_O_isPair 63 = .ok (.iaload, 1) := by decide +kernel
theorem d_O_isPair_64 : decode b_O_isPair 64 = .ok (.iadd, 1) := by decide +kernel
theorem d_O_isPair_65 : decode b_O_isPair 65 = .ok (.baload, 1) := by decide +kernel
theorem d_O_isPair_66 : decode b_O_isPair 66 = .ok (.ifCond .eq 22, 3) := by decide +kernel
theorem d_O_isPair_69 : decode b_O_isPair 69 = .ok (.aload_n 0, 1) := by decide +kernel
theorem d_O_isPair_70 : decode b_O_isPair 70 = .ok (.getfield 42, 3) := by decide +kernel
theorem d_O_isPair_73 : decode b_O_isPair 73 = .ok (.iload_n 2, 1) := by decide +kernel
theorem d_O_isPair_74 : decode b_O_isPair 74 = .ok (.laload, 1) := by decide +kernel
theorem d_O_isPair_75 : decode b_O_isPair 75 = .ok (.aload_n 0, 1) := by decide +kernel
theorem d_O_isPair_76 : decode b_O_isPair 76 = .ok (.iload_n 1, 1) := by decide +kernel
theorem d_O_isPair_77 : decode b_O_isPair 77 = .ok (.invokevirtual 111, 3) := by decide +kernel
theorem d_O_isPair_80 : decode b_O_isPair 80 = .ok (.lcmp, 1) := by decide +kernel
theorem d_O_isPair_81 : decode b_O_isPair 81 = .ok (.ifCond .lt 7, 3) := by decide +kernel
theorem d_O_isPair_84 : decode b_O_isPair 84 = .ok (.iconst 1, 1) := by decide +kernel
theorem d_O_isPair_85 : decode b_O_isPair 85 = .ok (.goto 4, 3) := by decide +kernel
theorem d_O_isPair_88 : decode b_O_isPair 88 = .ok (.iconst 0, 1) := by decide +kernel
theorem d_O_isPair_89 : decode b_O_isPair 89 = .ok (.ireturn, 1) := by decide +kernel
def w_O_isPair : List Cond := .code y_O_isPair b_O_isPair 4 (some .boolean) :: ([.methodLink "PartShelvesModel" 117 ⟨"PartShelvesModel", "stateOf", "(I)I"⟩, .instanceMethod ⟨"PartShelvesModel", "stateOf", "(I)I"⟩, .selects "PartShelvesModel" ⟨"PartShelvesModel", "stateOf", "(I)I"⟩ ⟨"PartShelvesModel", "stateOf", "(I)I"⟩, .initialized "PartShelvesModel", .code ⟨"PartShelvesModel", "stateOf", "(I)I"⟩ prog_9_method_14_code 2 (some .int), .fieldLink "PartShelvesModel" 30 "PartShelvesModel" "states" "[I", .fieldLink "PartShelvesModel" 36 "PartShelvesModel" "days" "[I", .fieldLink "PartShelvesModel" 88 "PartShelvesModel" "today" "I", .fieldLink "PartShelvesModel" 33 "PartShelvesModel" "whose" "[I", .methodLink "PartShelvesModel" 123 ⟨"PartShelvesModel", "isOpen", "(I)Z"⟩, .instanceMethod ⟨"PartShelvesModel", "isOpen", "(I)Z"⟩, .selects "PartShelvesModel" ⟨"PartShelvesModel", "isOpen", "(I)Z"⟩ ⟨"PartShelvesModel", "isOpen", "(I)Z"⟩, .code ⟨"PartShelvesModel", "isOpen", "(I)Z"⟩ prog_9_method_7_code 2 (some .boolean), .fieldLink "PartShelvesModel" 85 "PartShelvesModel" "asks" "I", .fieldLink "PartShelvesModel" 48 "PartShelvesModel" "served" "[Z", .fieldLink "PartShelvesModel" 17 "PartShelvesModel" "fits" "[Z", .fieldLink "PartShelvesModel" 21 "PartShelvesModel" "kinds" "[I", .fieldLink "PartShelvesModel" 39 "PartShelvesModel" "products" "[I", .fieldLink "PartShelvesModel" 42 "PartShelvesModel" "cents" "[J", .methodLink "PartShelvesModel" 111 ⟨"PartShelvesModel", "priceOf", "(I)J"⟩, .instanceMethod ⟨"PartShelvesModel", "priceOf", "(I)J"⟩, .selects "PartShelvesModel" ⟨"PartShelvesModel", "priceOf", "(I)J"⟩ ⟨"PartShelvesModel", "priceOf", "(I)J"⟩, .code ⟨"PartShelvesModel", "priceOf", "(I)J"⟩ prog_9_method_12_code 5 (some .long), .fieldLink "PartShelvesModel" 97 "PartShelvesModel" "rows" "I", .fieldLink "PartShelvesModel" 7 "PartShelvesModel" "rowAges" "[I", .fieldLink "PartShelvesModel" 24 "PartShelvesModel" "ages" "[I", .fieldLink "PartShelvesModel" 13 "PartShelvesModel" "rowCents" "[J"] ++ u_ws R_O F_O 36)
set_option maxRecDepth 20000 in
theorem g_O_isPair_stateOf : GoodIn w_O_isPair (wsV R_O 117 R_O y_O_stateOf w_O_stateOf) := goodIn_p _ [5] rfl (by decide +kernel)
set_option maxRecDepth 20000 in
theorem g_O_isPair_isOpen : GoodIn w_O_isPair (wsV R_O 123 R_O y_O_isOpen w_O_isOpen) := goodIn_p _ [13] rfl (by decide +kernel)
set_option maxRecDepth 20000 in
theorem g_O_isPair_priceOf : GoodIn w_O_isPair (wsV R_O 111 R_O y_O_priceOf w_O_priceOf) := goodIn_p _ [23] rfl (by decide +kernel)
set_option maxHeartbeats 4000000 in
set_option maxRecDepth 100000 in
theorem c_O_isPair (l : Launch) (D : va_G) (kC : Nat → ClassId) (ad : Nat → Nat) (td : Nat) (rn : Nat) (pn : Nat) (an : Nat) (jn : Nat) (tn : Nat) (bm : Int32) (fw : Int64) (gp : Nat) (ga : Nat) (bp : Int32) (fc : Int64) (fj : Nat) (rA : Nat → Nat) (rC : Nat → Nat) (ft : Nat → Int32) (kd : Nat → Nat) (aG : Nat → Nat) (sR : Nat → Nat) (sT : Nat → Nat) (wh : Nat → Nat) (dY : Nat → Nat) (pd : Nat → Nat) (cN : Nat → Nat) (mN : Nat → Nat) (sv : Nat → Int32) (nd : Nat → Nat) (wr : Nat → Nat) (tl : Nat → Nat) (lt : Nat → Int32) (lT : Nat → Nat) (lD : Nat → Nat) (gv : Nat → Int32) (gn : Nat → Int64) (od : Nat → Nat) (br : Nat → Nat) (q : Nat) (k : Nat) (hq : q < 8) (hk : k < 8) (han : an ≤ 8) (hsT : ∀ j, sT j ≤ 3) (hdY : ∀ j, dY j ≤ 100000) (htd : td ≤ 100000) (hrn : rn ≤ 6) (hrA : ∀ j, rA j ≤ 1000) (haG : ∀ j, aG j ≤ 1000) (hkd : ∀ j, kd j < 6) (hpd : ∀ j, pd j < 6) (hcN : ∀ j, cN j ≤ 1000000) (hrC : ∀ j, rC j ≤ 100000) (hwh : ∀ j, wh j < 10) : Met l y_O_isPair w_O_isPair ({ frames := 1, cells := 0, slots := 0, locals := 24 } : Room) (gPr cls D (tyL kC) [.ref (ad 0), .int (nI q), .int (nI k)] (fl [(wO kC ad td rn pn an jn tn bm fw gp ga bp fc fj rA rC ft kd aG sR sT wh dY pd cN mN sv nd wr tl lt lT lD gv gn od br)])) (vp_Si (fun r => r = bI (prsO td rn an rA rC ft kd aG sT wh dY pd cN sv q k))) 0 0 (fun _ => False) := by
  refine Met.ofW (cc := b_O_isPair) (maxL := 4) (ret := (some .boolean)) (by decide) rfl ?_
  intro p e s m args below meth c s₁ B hml hv
  obtain ⟨rfl, hP, hK⟩ := hv
  have hx := B.exec
  have hb := B.bytes
  have hr := B.returns
  have hts := atoms_spec (ws := w_O_isPair) B.pre
  have hown : s.vm.findClass R_O = some m.cls := findClass_of_methodNamed B.named
  have hlocks := B.notSynchronized
  have hl := lv_entry ([.ref (ad 0), .int (nI q), .int (nI k)]) (n := 4) (Nat.le_of_ble_eq_true rfl)
  rw [lg_entry_eq]
  generalize (lg_sl ([.ref (ad 0), .int (nI q), .int (nI k)]) ++ List.replicate (4 - (lg_sl ([.ref (ad 0), .int (nI q), .int (nI k)])).length) Slot.unset).toArray = ls at hl ⊢
  have hl : lv_has ls 4 [(0, .ref (ad 0)), (1, .int (nI q)), (2, .int (nI k))] := hl
  refine lv_aload_n hx hb d_O_isPair_0 rfl (lv_at hl 0 rfl) ?_
  refine lv_iload_n hx hb d_O_isPair_1 rfl (lv_at hl 1 rfl) ?_
  refine r_calli (W.runV (As := [.int (nI q)]) (rest := []) ⟨hx, hb, hml, hown, hts⟩ (c_O_stOf l D kC ad td rn pn an jn tn bm fw gp ga bp fc fj rA rC ft kd aG sR sT wh dY pd cN mN sv nd wr tl lt lT lD gv gn od br q (hq) (hsT) (hdY) (htd)) (cwV 1 hts g_O_isPair_stateOf rfl rfl rfl (by decide +kernel) ⟨Nat.le_of_ble_eq_true rfl, Nat.le_of_ble_eq_true rfl⟩) (r_preV (f_recv (ci := 7) (q0 := 0) hK hP 0 rfl rfl rfl) hK hP) rfl rfl hl.1 rfl (lv_room (Nat.le_of_ble_eq_true rfl)) d_O_isPair_2 ⟨Nat.le_of_ble_eq_true rfl, Nat.le_of_ble_eq_true rfl⟩) ?_
  refine nv_if_eq (tgt := 27) hx hb d_O_isPair_5 (by decide) (Nat.lt_of_le_of_lt (stOn_le (hsT _)) (by decide)) (fun h1 => ?_) (fun h1 => ?_)
  · refine lv_iconst (v := nI 1) hx hb d_O_isPair_27 (by decide) ?_
    refine lv_goto (tgt := 32) hx hb d_O_isPair_28 (by decide) ?_
    refine lv_istore_n (lv' := [(3, .int (nI 1)), (0, .ref (ad 0)), (1, .int (nI q)), (2, .int (nI k))]) hx hb d_O_isPair_32 rfl hl (by decide) rfl (fun ls hl => ?_)
    refine lv_iload_n hx hb d_O_isPair_33 rfl (lv_at hl 0 rfl) ?_
    refine nv_if_eq (tgt := 88) hx hb d_O_isPair_34 (by decide) (by decide) (fun c1 => ?_) (fun c1 => ?_)
    · exact absurd c1 (by decide)
    · refine lv_aload_n hx hb d_O_isPair_37 rfl (lv_at hl 1 rfl) ?_
      refine lv_iload_n hx hb d_O_isPair_38 rfl (lv_at hl 3 rfl) ?_
      refine r_calli (W.runV (As := [.int (nI k)]) (rest := []) ⟨hx, hb, hml, hown, hts⟩ (c_O_isOpen l D kC ad td rn pn an jn tn bm fw gp ga bp fc fj rA rC ft kd aG sR sT wh dY pd cN mN sv nd wr tl lt lT lD gv gn od br (nI k) (han)) (cwV 1 hts g_O_isPair_isOpen rfl rfl rfl (by decide +kernel) ⟨Nat.le_of_ble_eq_true rfl, Nat.le_of_ble_eq_true rfl⟩) (r_preV (f_recv (ci := 7) (q0 := 0) hK hP 0 rfl rfl rfl) hK hP) rfl rfl hl.1 rfl (lv_room (Nat.le_of_ble_eq_true rfl)) d_O_isPair_39 ⟨Nat.le_of_ble_eq_true rfl, Nat.le_of_ble_eq_true rfl⟩) ?_
      refine lv_if_eq (tgt := 88) hx hb d_O_isPair_42 (by decide) (fun h4 => ?_) (fun h4 => ?_)
      · refine lv_iconst (v := nI 0) hx hb d_O_isPair_88 (by decide) ?_
        exact W.zret (v := nI 0) hx hb hr (nar_b (by first | exact Or.inl rfl | exact Or.inr rfl | exact bI_01)) (fun t ht hW => ⟨_, rfl, (bI_f (fun q => by first | exact absurd ((lN_lt (by have := hcN k; omega) (Nat.lt_of_le_of_lt (prM_le hrC _) (by decide))).mp h6) (Nat.not_lt.mpr q.2.2.2) | exact q.2.2.1 h5 | exact bI_0.mp h4 ((opn_nI (by omega)).mpr q.2.1) | exact h3 (q.1.elim (fun z => absurd z h1) (fun z => z.2)) | exact h2 (q.1.elim (fun z => absurd z h1) (fun z => z.1)))).symm, ht⟩) t_nil d_O_isPair_89
      · refine lv_aload_n hx hb d_O_isPair_45 rfl (lv_at hl 1 rfl) ?_
        refine fv_get (ci := 7) (v := .ref (ad 3)) (C := R_O) (T := F_O) (N := 36) hx hb hts (by decide +kernel) hown hK hP 0 0 rfl rfl rfl 4 (by decide) (hts (.fieldLink R_O 17 "PartShelvesModel" "fits" "[Z") (by decide +kernel)) (fun _ h9 => h9) rfl d_O_isPair_46 ?_
        refine lv_bipush (v := nI 6) hx hb d_O_isPair_49 (by decide +kernel) ?_
        refine lv_aload_n hx hb d_O_isPair_51 rfl (lv_at hl 1 rfl) ?_
        refine fv_get (ci := 7) (v := .ref (ad 4)) (C := R_O) (T := F_O) (N := 36) hx hb hts (by decide +kernel) hown hK hP 0 0 rfl rfl rfl 6 (by decide) (hts (.fieldLink R_O 21 "PartShelvesModel" "kinds" "[I") (by decide +kernel)) (fun _ h9 => h9) rfl d_O_isPair_52 ?_
        refine lv_iload_n hx hb d_O_isPair_55 rfl (lv_at hl 2 rfl) ?_
        refine fa_ialdN hx hb hK hP 0 4 0 rfl rfl rfl (by omega) (by decide) d_O_isPair_56 ?_
        refine nv_imul hx hb d_O_isPair_57 ?_
        refine lv_aload_n hx hb d_O_isPair_58 rfl (lv_at hl 1 rfl) ?_
        refine fv_get (ci := 7) (v := .ref (ad 10)) (C := R_O) (T := F_O) (N := 36) hx hb hts (by decide +kernel) hown hK hP 0 0 rfl rfl rfl 13 (by decide) (hts (.fieldLink R_O 39 "PartShelvesModel" "products" "[I") (by decide +kernel)) (fun _ h9 => h9) rfl d_O_isPair_59 ?_
        refine lv_iload_n hx hb d_O_isPair_62 rfl (lv_at hl 3 rfl) ?_
        refine fa_ialdN hx hb hK hP 0 10 0 rfl rfl rfl (by omega) (by decide) d_O_isPair_63 ?_
        refine nv_iadd hx hb d_O_isPair_64 ?_
        refine fa_zald hx hb hK hP 0 3 2 rfl rfl rfl (by have := hkd q; have := hpd k; omega) (by decide) d_O_isPair_65 ?_
        refine lv_if_eq (tgt := 88) hx hb d_O_isPair_66 (by decide) (fun h5 => ?_) (fun h5 => ?_)
        · refine lv_iconst (v := nI 0) hx hb d_O_isPair_88 (by decide) ?_
          exact W.zret (v := nI 0) hx hb hr (nar_b (by first | exact Or.inl rfl | exact Or.inr rfl | exact bI_01)) (fun t ht hW => ⟨_, rfl, (bI_f (fun q => by first | exact absurd ((lN_lt (by have := hcN k; omega) (Nat.lt_of_le_of_lt (prM_le hrC _) (by decide))).mp h6) (Nat.not_lt.mpr q.2.2.2) | exact q.2.2.1 h5 | exact bI_0.mp h4 ((opn_nI (by omega)).mpr q.2.1) | exact h3 (q.1.elim (fun z => absurd z h1) (fun z => z.2)) | exact h2 (q.1.elim (fun z => absurd z h1) (fun z => z.1)))).symm, ht⟩) t_nil d_O_isPair_89
        · refine lv_aload_n hx hb d_O_isPair_69 rfl (lv_at hl 1 rfl) ?_
          refine fv_get (ci := 7) (v := .ref (ad 11)) (C := R_O) (T := F_O) (N := 36) hx hb hts (by decide +kernel) hown hK hP 0 0 rfl rfl rfl 14 (by decide) (hts (.fieldLink R_O 42 "PartShelvesModel" "cents" "[J") (by decide +kernel)) (fun _ h9 => h9) rfl d_O_isPair_70 ?_
          refine lv_iload_n hx hb d_O_isPair_73 rfl (lv_at hl 3 rfl) ?_
          refine fa_laldN hx hb hK hP 0 11 1 rfl rfl rfl (by omega) (by decide) d_O_isPair_74 ?_
          refine lv_aload_n hx hb d_O_isPair_75 rfl (lv_at hl 1 rfl) ?_
          refine lv_iload_n hx hb d_O_isPair_76 rfl (lv_at hl 2 rfl) ?_
          refine r_calll (W.runV (As := [.int (nI q)]) (rest := [.long (lN (cN k))]) ⟨hx, hb, hml, hown, hts⟩ (c_O_prOf l D kC ad td rn pn an jn tn bm fw gp ga bp fc fj rA rC ft kd aG sR sT wh dY pd cN mN sv nd wr tl lt lT lD gv gn od br q (hq) (hrn) (hrA) (haG)) (cwV 1 hts g_O_isPair_priceOf rfl rfl rfl (by decide +kernel) ⟨Nat.le_of_ble_eq_true rfl, Nat.le_of_ble_eq_true rfl⟩) (r_preV (f_recv (ci := 7) (q0 := 0) hK hP 0 rfl rfl rfl) hK hP) rfl rfl hl.1 rfl (lv_room (Nat.le_of_ble_eq_true rfl)) d_O_isPair_77 ⟨Nat.le_of_ble_eq_true rfl, Nat.le_of_ble_eq_true rfl⟩) ?_
          refine lc_lt (tgt := 88) hx hb d_O_isPair_80 d_O_isPair_81 (by decide) (fun h6 => ?_) (fun h6 => ?_)
          · refine lv_iconst (v := nI 0) hx hb d_O_isPair_88 (by decide) ?_
            exact W.zret (v := nI 0) hx hb hr (nar_b (by first | exact Or.inl rfl | exact Or.inr rfl | exact bI_01)) (fun t ht hW => ⟨_, rfl, (bI_f (fun q => by first | exact absurd ((lN_lt (by have := hcN k; omega) (Nat.lt_of_le_of_lt (prM_le hrC _) (by decide))).mp h6) (Nat.not_lt.mpr q.2.2.2) | exact q.2.2.1 h5 | exact bI_0.mp h4 ((opn_nI (by omega)).mpr q.2.1) | exact h3 (q.1.elim (fun z => absurd z h1) (fun z => z.2)) | exact h2 (q.1.elim (fun z => absurd z h1) (fun z => z.1)))).symm, ht⟩) t_nil d_O_isPair_89
          · refine lv_iconst (v := nI 1) hx hb d_O_isPair_84 (by decide) ?_
            refine lv_goto (tgt := 89) hx hb d_O_isPair_85 (by decide) ?_
            exact W.zret (v := nI 1) hx hb hr (nar_b (by first | exact Or.inl rfl | exact Or.inr rfl | exact bI_01)) (fun t ht hW => ⟨_, rfl, (bI_t ⟨by first | exact Or.inl h1 | exact Or.inr ⟨h2, h3⟩, (opn_nI (by omega)).mp (bI_n0.mp h4), h5, Nat.le_of_not_lt (fun z => h6 ((lN_lt (by have := hcN k; omega) (Nat.lt_of_le_of_lt (prM_le hrC _) (by decide))).mpr z))⟩).symm, ht⟩) t_nil d_O_isPair_89
  · refine lv_aload_n hx hb d_O_isPair_8 rfl (lv_at hl 0 rfl) ?_
    refine lv_iload_n hx hb d_O_isPair_9 rfl (lv_at hl 1 rfl) ?_
    refine r_calli (W.runV (As := [.int (nI q)]) (rest := []) ⟨hx, hb, hml, hown, hts⟩ (c_O_stOf l D kC ad td rn pn an jn tn bm fw gp ga bp fc fj rA rC ft kd aG sR sT wh dY pd cN mN sv nd wr tl lt lT lD gv gn od br q (hq) (hsT) (hdY) (htd)) (cwV 1 hts g_O_isPair_stateOf rfl rfl rfl (by decide +kernel) ⟨Nat.le_of_ble_eq_true rfl, Nat.le_of_ble_eq_true rfl⟩) (r_preV (f_recv (ci := 7) (q0 := 0) hK hP 0 rfl rfl rfl) hK hP) rfl rfl hl.1 rfl (lv_room (Nat.le_of_ble_eq_true rfl)) d_O_isPair_10 ⟨Nat.le_of_ble_eq_true rfl, Nat.le_of_ble_eq_true rfl⟩) ?_
    refine lv_iconst (v := nI 1) hx hb d_O_isPair_13 (by decide) ?_
    refine nv_icmp_ne (tgt := 31) hx hb d_O_isPair_14 (by decide) (Nat.lt_of_le_of_lt (stOn_le (hsT _)) (by decide)) (by omega) (fun h2 => ?_) (fun h2 => ?_)
    · refine lv_iconst (v := nI 0) hx hb d_O_isPair_31 (by decide) ?_
      refine lv_istore_n (lv' := [(3, .int (nI 0)), (0, .ref (ad 0)), (1, .int (nI q)), (2, .int (nI k))]) hx hb d_O_isPair_32 rfl hl (by decide) rfl (fun ls hl => ?_)
      refine lv_iload_n hx hb d_O_isPair_33 rfl (lv_at hl 0 rfl) ?_
      refine nv_if_eq (tgt := 88) hx hb d_O_isPair_34 (by decide) (by decide) (fun c2 => ?_) (fun c2 => ?_)
      · refine lv_iconst (v := nI 0) hx hb d_O_isPair_88 (by decide) ?_
        exact W.zret (v := nI 0) hx hb hr (nar_b (by first | exact Or.inl rfl | exact Or.inr rfl | exact bI_01)) (fun t ht hW => ⟨_, rfl, (bI_f (fun q => by first | exact absurd ((lN_lt (by have := hcN k; omega) (Nat.lt_of_le_of_lt (prM_le hrC _) (by decide))).mp h6) (Nat.not_lt.mpr q.2.2.2) | exact q.2.2.1 h5 | exact bI_0.mp h4 ((opn_nI (by omega)).mpr q.2.1) | exact h3 (q.1.elim (fun z => absurd z h1) (fun z => z.2)) | exact h2 (q.1.elim (fun z => absurd z h1) (fun z => z.1)))).symm, ht⟩) t_nil d_O_isPair_89
      · exact absurd c2 (by decide)
    · refine lv_aload_n hx hb d_O_isPair_17 rfl (lv_at hl 0 rfl) ?_
      refine fv_get (ci := 7) (v := .ref (ad 8)) (C := R_O) (T := F_O) (N := 36) hx hb hts (by decide +kernel) hown hK hP 0 0 rfl rfl rfl 10 (by decide) (hts (.fieldLink R_O 33 "PartShelvesModel" "whose" "[I") (by decide +kernel)) (fun _ h9 => h9) rfl d_O_isPair_18 ?_
      refine lv_iload_n hx hb d_O_isPair_21 rfl (lv_at hl 1 rfl) ?_
      refine fa_ialdN hx hb hK hP 0 8 0 rfl rfl rfl (by omega) (by decide) d_O_isPair_22 ?_
      refine lv_iload_n hx hb d_O_isPair_23 rfl (lv_at hl 2 rfl) ?_
      refine nv_icmp_ne (tgt := 31) hx hb d_O_isPair_24 (by decide) (by have := hwh q; omega) (by omega) (fun h3 => ?_) (fun h3 => ?_)
      · refine lv_iconst (v := nI 0) hx hb d_O_isPair_31 (by decide) ?_
        refine lv_istore_n (lv' := [(3, .int (nI 0)), (0, .ref (ad 0)), (1, .int (nI q)), (2, .int (nI k))]) hx hb d_O_isPair_32 rfl hl (by decide) rfl (fun ls hl => ?_)
        refine lv_iload_n hx hb d_O_isPair_33 rfl (lv_at hl 0 rfl) ?_
        refine nv_if_eq (tgt := 88) hx hb d_O_isPair_34 (by decide) (by decide) (fun c3 => ?_) (fun c3 => ?_)
        · refine lv_iconst (v := nI 0) hx hb d_O_isPair_88 (by decide) ?_
          exact W.zret (v := nI 0) hx hb hr (nar_b (by first | exact Or.inl rfl | exact Or.inr rfl | exact bI_01)) (fun t ht hW => ⟨_, rfl, (bI_f (fun q => by first | exact absurd ((lN_lt (by have := hcN k; omega) (Nat.lt_of_le_of_lt (prM_le hrC _) (by decide))).mp h6) (Nat.not_lt.mpr q.2.2.2) | exact q.2.2.1 h5 | exact bI_0.mp h4 ((opn_nI (by omega)).mpr q.2.1) | exact h3 (q.1.elim (fun z => absurd z h1) (fun z => z.2)) | exact h2 (q.1.elim (fun z => absurd z h1) (fun z => z.1)))).symm, ht⟩) t_nil d_O_isPair_89
        · exact absurd c3 (by decide)
      · refine lv_iconst (v := nI 1) hx hb d_O_isPair_27 (by decide) ?_
        refine lv_goto (tgt := 32) hx hb d_O_isPair_28 (by decide) ?_
        refine lv_istore_n (lv' := [(3, .int (nI 1)), (0, .ref (ad 0)), (1, .int (nI q)), (2, .int (nI k))]) hx hb d_O_isPair_32 rfl hl (by decide) rfl (fun ls hl => ?_)
        refine lv_iload_n hx hb d_O_isPair_33 rfl (lv_at hl 0 rfl) ?_
        refine nv_if_eq (tgt := 88) hx hb d_O_isPair_34 (by decide) (by decide) (fun c4 => ?_) (fun c4 => ?_)
        · exact absurd c4 (by decide)
        · refine lv_aload_n hx hb d_O_isPair_37 rfl (lv_at hl 1 rfl) ?_
          refine lv_iload_n hx hb d_O_isPair_38 rfl (lv_at hl 3 rfl) ?_
          refine r_calli (W.runV (As := [.int (nI k)]) (rest := []) ⟨hx, hb, hml, hown, hts⟩ (c_O_isOpen l D kC ad td rn pn an jn tn bm fw gp ga bp fc fj rA rC ft kd aG sR sT wh dY pd cN mN sv nd wr tl lt lT lD gv gn od br (nI k) (han)) (cwV 1 hts g_O_isPair_isOpen rfl rfl rfl (by decide +kernel) ⟨Nat.le_of_ble_eq_true rfl, Nat.le_of_ble_eq_true rfl⟩) (r_preV (f_recv (ci := 7) (q0 := 0) hK hP 0 rfl rfl rfl) hK hP) rfl rfl hl.1 rfl (lv_room (Nat.le_of_ble_eq_true rfl)) d_O_isPair_39 ⟨Nat.le_of_ble_eq_true rfl, Nat.le_of_ble_eq_true rfl⟩) ?_
          refine lv_if_eq (tgt := 88) hx hb d_O_isPair_42 (by decide) (fun h4 => ?_) (fun h4 => ?_)
          · refine lv_iconst (v := nI 0) hx hb d_O_isPair_88 (by decide) ?_
            exact W.zret (v := nI 0) hx hb hr (nar_b (by first | exact Or.inl rfl | exact Or.inr rfl | exact bI_01)) (fun t ht hW => ⟨_, rfl, (bI_f (fun q => by first | exact absurd ((lN_lt (by have := hcN k; omega) (Nat.lt_of_le_of_lt (prM_le hrC _) (by decide))).mp h6) (Nat.not_lt.mpr q.2.2.2) | exact q.2.2.1 h5 | exact bI_0.mp h4 ((opn_nI (by omega)).mpr q.2.1) | exact h3 (q.1.elim (fun z => absurd z h1) (fun z => z.2)) | exact h2 (q.1.elim (fun z => absurd z h1) (fun z => z.1)))).symm, ht⟩) t_nil d_O_isPair_89
          · refine lv_aload_n hx hb d_O_isPair_45 rfl (lv_at hl 1 rfl) ?_
            refine fv_get (ci := 7) (v := .ref (ad 3)) (C := R_O) (T := F_O) (N := 36) hx hb hts (by decide +kernel) hown hK hP 0 0 rfl rfl rfl 4 (by decide) (hts (.fieldLink R_O 17 "PartShelvesModel" "fits" "[Z") (by decide +kernel)) (fun _ h9 => h9) rfl d_O_isPair_46 ?_
            refine lv_bipush (v := nI 6) hx hb d_O_isPair_49 (by decide +kernel) ?_
            refine lv_aload_n hx hb d_O_isPair_51 rfl (lv_at hl 1 rfl) ?_
            refine fv_get (ci := 7) (v := .ref (ad 4)) (C := R_O) (T := F_O) (N := 36) hx hb hts (by decide +kernel) hown hK hP 0 0 rfl rfl rfl 6 (by decide) (hts (.fieldLink R_O 21 "PartShelvesModel" "kinds" "[I") (by decide +kernel)) (fun _ h9 => h9) rfl d_O_isPair_52 ?_
            refine lv_iload_n hx hb d_O_isPair_55 rfl (lv_at hl 2 rfl) ?_
            refine fa_ialdN hx hb hK hP 0 4 0 rfl rfl rfl (by omega) (by decide) d_O_isPair_56 ?_
            refine nv_imul hx hb d_O_isPair_57 ?_
            refine lv_aload_n hx hb d_O_isPair_58 rfl (lv_at hl 1 rfl) ?_
            refine fv_get (ci := 7) (v := .ref (ad 10)) (C := R_O) (T := F_O) (N := 36) hx hb hts (by decide +kernel) hown hK hP 0 0 rfl rfl rfl 13 (by decide) (hts (.fieldLink R_O 39 "PartShelvesModel" "products" "[I") (by decide +kernel)) (fun _ h9 => h9) rfl d_O_isPair_59 ?_
            refine lv_iload_n hx hb d_O_isPair_62 rfl (lv_at hl 3 rfl) ?_
            refine fa_ialdN hx hb hK hP 0 10 0 rfl rfl rfl (by omega) (by decide) d_O_isPair_63 ?_
            refine nv_iadd hx hb d_O_isPair_64 ?_
            refine fa_zald hx hb hK hP 0 3 2 rfl rfl rfl (by have := hkd q; have := hpd k; omega) (by decide) d_O_isPair_65 ?_
            refine lv_if_eq (tgt := 88) hx hb d_O_isPair_66 (by decide) (fun h5 => ?_) (fun h5 => ?_)
            · refine lv_iconst (v := nI 0) hx hb d_O_isPair_88 (by decide) ?_
              exact W.zret (v := nI 0) hx hb hr (nar_b (by first | exact Or.inl rfl | exact Or.inr rfl | exact bI_01)) (fun t ht hW => ⟨_, rfl, (bI_f (fun q => by first | exact absurd ((lN_lt (by have := hcN k; omega) (Nat.lt_of_le_of_lt (prM_le hrC _) (by decide))).mp h6) (Nat.not_lt.mpr q.2.2.2) | exact q.2.2.1 h5 | exact bI_0.mp h4 ((opn_nI (by omega)).mpr q.2.1) | exact h3 (q.1.elim (fun z => absurd z h1) (fun z => z.2)) | exact h2 (q.1.elim (fun z => absurd z h1) (fun z => z.1)))).symm, ht⟩) t_nil d_O_isPair_89
            · refine lv_aload_n hx hb d_O_isPair_69 rfl (lv_at hl 1 rfl) ?_
              refine fv_get (ci := 7) (v := .ref (ad 11)) (C := R_O) (T := F_O) (N := 36) hx hb hts (by decide +kernel) hown hK hP 0 0 rfl rfl rfl 14 (by decide) (hts (.fieldLink R_O 42 "PartShelvesModel" "cents" "[J") (by decide +kernel)) (fun _ h9 => h9) rfl d_O_isPair_70 ?_
              refine lv_iload_n hx hb d_O_isPair_73 rfl (lv_at hl 3 rfl) ?_
              refine fa_laldN hx hb hK hP 0 11 1 rfl rfl rfl (by omega) (by decide) d_O_isPair_74 ?_
              refine lv_aload_n hx hb d_O_isPair_75 rfl (lv_at hl 1 rfl) ?_
              refine lv_iload_n hx hb d_O_isPair_76 rfl (lv_at hl 2 rfl) ?_
              refine r_calll (W.runV (As := [.int (nI q)]) (rest := [.long (lN (cN k))]) ⟨hx, hb, hml, hown, hts⟩ (c_O_prOf l D kC ad td rn pn an jn tn bm fw gp ga bp fc fj rA rC ft kd aG sR sT wh dY pd cN mN sv nd wr tl lt lT lD gv gn od br q (hq) (hrn) (hrA) (haG)) (cwV 1 hts g_O_isPair_priceOf rfl rfl rfl (by decide +kernel) ⟨Nat.le_of_ble_eq_true rfl, Nat.le_of_ble_eq_true rfl⟩) (r_preV (f_recv (ci := 7) (q0 := 0) hK hP 0 rfl rfl rfl) hK hP) rfl rfl hl.1 rfl (lv_room (Nat.le_of_ble_eq_true rfl)) d_O_isPair_77 ⟨Nat.le_of_ble_eq_true rfl, Nat.le_of_ble_eq_true rfl⟩) ?_
              refine lc_lt (tgt := 88) hx hb d_O_isPair_80 d_O_isPair_81 (by decide) (fun h6 => ?_) (fun h6 => ?_)
              · refine lv_iconst (v := nI 0) hx hb d_O_isPair_88 (by decide) ?_
                exact W.zret (v := nI 0) hx hb hr (nar_b (by first | exact Or.inl rfl | exact Or.inr rfl | exact bI_01)) (fun t ht hW => ⟨_, rfl, (bI_f (fun q => by first | exact absurd ((lN_lt (by have := hcN k; omega) (Nat.lt_of_le_of_lt (prM_le hrC _) (by decide))).mp h6) (Nat.not_lt.mpr q.2.2.2) | exact q.2.2.1 h5 | exact bI_0.mp h4 ((opn_nI (by omega)).mpr q.2.1) | exact h3 (q.1.elim (fun z => absurd z h1) (fun z => z.2)) | exact h2 (q.1.elim (fun z => absurd z h1) (fun z => z.1)))).symm, ht⟩) t_nil d_O_isPair_89
              · refine lv_iconst (v := nI 1) hx hb d_O_isPair_84 (by decide) ?_
                refine lv_goto (tgt := 89) hx hb d_O_isPair_85 (by decide) ?_
                exact W.zret (v := nI 1) hx hb hr (nar_b (by first | exact Or.inl rfl | exact Or.inr rfl | exact bI_01)) (fun t ht hW => ⟨_, rfl, (bI_t ⟨by first | exact Or.inl h1 | exact Or.inr ⟨h2, h3⟩, (opn_nI (by omega)).mp (bI_n0.mp h4), h5, Nat.le_of_not_lt (fun z => h6 ((lN_lt (by have := hcN k; omega) (Nat.lt_of_le_of_lt (prM_le hrC _) (by decide))).mpr z))⟩).symm, ht⟩) t_nil d_O_isPair_89

abbrev b_O_hold : ByteArray := prog_9_method_17_code
def y_O_hold : MethodName := ⟨"PartShelvesModel", "hold", "(III)Z"⟩
theorem d_O_hold_0 : decode b_O_hold 0 = .ok (.aload_n 0, 1) := by decide +kernel
theorem d_O_hold_1 : decode b_O_hold 1 = .ok (.iload_n 1, 1) := by decide +kernel
theorem d_O_hold_2 : decode b_O_hold 2 = .ok (.invokevirtual 108, 3) := by decide +kernel
theorem d_O_hold_5 : decode b_O_hold 5 = .ok (.ifCond .eq 35, 3) := by decide +kernel
theorem d_O_hold_8 : decode b_O_hold 8 = .ok (.aload_n 0, 1) := by decide +kernel
theorem d_O_hold_9 : decode b_O_hold 9 = .ok (.iload_n 1, 1) := by decide +kernel
theorem d_O_hold_10 : decode b_O_hold 10 = .ok (.invokevirtual 117, 3) := by decide +kernel
theorem d_O_hold_13 : decode b_O_hold 13 = .ok (.ifCond .ne 27, 3) := by decide +kernel
theorem d_O_hold_16 : decode b_O_hold 16 = .ok (.aload_n 0, 1) := by decide +kernel
theorem d_O_hold_17 : decode b_O_hold 17 = .ok (.iload_n 2, 1) := by decide +kernel
theorem d_O_hold_18 : decode b_O_hold 18 = .ok (.invokevirtual 123, 3) := by decide +kernel
theorem d_O_hold_21 : decode b_O_hold 21 = .ok (.ifCond .eq 19, 3) := by decide +kernel
theorem d_O_hold_24 : decode b_O_hold 24 = .ok (.iload_n 3, 1) := by decide +kernel
theorem d_O_hold_25 : decode b_O_hold 25 = .ok (.i2l, 1) := by decide +kernel
theorem d_O_hold_26 : decode b_O_hold 26 = .ok (.aload_n 0, 1) := by decide +kernel
theorem d_O_hold_27 : decode b_O_hold 27 = .ok (.getfield 88, 3) := by decide +kernel
theorem d_O_hold_30 : decode b_O_hold 30 = .ok (.i2l, 1) := by decide +kernel
theorem d_O_hold_31 : decode b_O_hold 31 = .ok (.ldc2_w 91, 3) := by decide +kernel
theorem d_O_hold_34 : decode b_O_hold 34 = .ok (.invokestatic 93, 3) := by decide +kernel
theorem d_O_hold_37 : decode b_O_hold 37 = .ok (.ifCond .ne 5, 3) := by decide +kernel
theorem d_O_hold_40 : decode b_O_hold 40 = .ok (.iconst 0, 1) := by decide +kernel
theorem d_O_hold_41 : decode b_O_hold 41 = .ok (.ireturn, 1) := by decide +kernel
theorem d_O_hold_42 : decode b_O_hold 42 = .ok (.aload_n 0, 1) := by decide +kernel
theorem d_O_hold_43 : decode b_O_hold 43 = .ok (.getfield 30, 3) := by decide +kernel
theorem d_O_hold_46 : decode b_O_hold 46 = .ok (.iload_n 1, 1) := by decide +kernel
theorem d_O_hold_47 : decode b_O_hold 47 = .ok (.iconst 1, 1) := by decide +kernel
theorem d_O_hold_48 : decode b_O_hold 48 = .ok (.iastore, 1) := by decide +kernel
theorem d_O_hold_49 : decode b_O_hold 49 = .ok (.aload_n 0, 1) := by decide +kernel
theorem d_O_hold_50 : decode b_O_hold 50 = .ok (.getfield 33, 3) := by decide +kernel
theorem d_O_hold_53 : decode b_O_hold 53 = .ok (.iload_n 1, 1) := by decide +kernel
theorem d_O_hold_54 : decode b_O_hold 54 = .ok (.iload_n 2, 1) := by decide +kernel
theorem d_O_hold_55 : decode b_O_hold 55 = .ok (.iastore, 1) := by decide +kernel
theorem d_O_hold_56 : decode b_O_hold 56 = .ok (.aload_n 0, 1) := by decide +kernel
theorem d_O_hold_57 : decode b_O_hold 57 = .ok (.getfield 36, 3) := by decide +kernel
theorem d_O_hold_60 : decode b_O_hold 60 = .ok (.iload_n 1, 1) := by decide +kernel
theorem d_O_hold_61 : decode b_O_hold 61 = .ok (.iload_n 3, 1) := by decide +kernel
theorem d_O_hold_62 : decode b_O_hold 62 = .ok (.iastore, 1) := by decide +kernel
theorem d_O_hold_63 : decode b_O_hold 63 = .ok (.iconst 1, 1) := by decide +kernel
theorem d_O_hold_64 : decode b_O_hold 64 = .ok (.ireturn, 1) := by decide +kernel
def w_O_hold : List Cond := .code y_O_hold b_O_hold 4 (some .boolean) :: ([.methodLink "PartShelvesModel" 108 ⟨"PartShelvesModel", "isPart", "(I)Z"⟩, .instanceMethod ⟨"PartShelvesModel", "isPart", "(I)Z"⟩, .selects "PartShelvesModel" ⟨"PartShelvesModel", "isPart", "(I)Z"⟩ ⟨"PartShelvesModel", "isPart", "(I)Z"⟩, .initialized "PartShelvesModel", .code ⟨"PartShelvesModel", "isPart", "(I)Z"⟩ prog_9_method_6_code 2 (some .boolean), .fieldLink "PartShelvesModel" 81 "PartShelvesModel" "parts" "I", .methodLink "PartShelvesModel" 117 ⟨"PartShelvesModel", "stateOf", "(I)I"⟩, .instanceMethod ⟨"PartShelvesModel", "stateOf", "(I)I"⟩, .selects "PartShelvesModel" ⟨"PartShelvesModel", "stateOf", "(I)I"⟩ ⟨"PartShelvesModel", "stateOf", "(I)I"⟩, .code ⟨"PartShelvesModel", "stateOf", "(I)I"⟩ prog_9_method_14_code 2 (some .int), .fieldLink "PartShelvesModel" 30 "PartShelvesModel" "states" "[I", .fieldLink "PartShelvesModel" 36 "PartShelvesModel" "days" "[I", .fieldLink "PartShelvesModel" 88 "PartShelvesModel" "today" "I", .methodLink "PartShelvesModel" 123 ⟨"PartShelvesModel", "isOpen", "(I)Z"⟩, .instanceMethod ⟨"PartShelvesModel", "isOpen", "(I)Z"⟩, .selects "PartShelvesModel" ⟨"PartShelvesModel", "isOpen", "(I)Z"⟩ ⟨"PartShelvesModel", "isOpen", "(I)Z"⟩, .code ⟨"PartShelvesModel", "isOpen", "(I)Z"⟩ prog_9_method_7_code 2 (some .boolean), .fieldLink "PartShelvesModel" 85 "PartShelvesModel" "asks" "I", .fieldLink "PartShelvesModel" 48 "PartShelvesModel" "served" "[Z", .constantLong "PartShelvesModel" 91 100000, .methodLink "PartShelvesModel" 93 ⟨"PartShelvesModel", "isIn", "(JJJ)Z"⟩, .static ⟨"PartShelvesModel", "isIn", "(JJJ)Z"⟩, .code ⟨"PartShelvesModel", "isIn", "(JJJ)Z"⟩ prog_9_method_3_code 6 (some .boolean), .fieldLink "PartShelvesModel" 33 "PartShelvesModel" "whose" "[I"] ++ u_ws R_O F_O 36)
set_option maxRecDepth 20000 in
theorem g_O_hold_isPart : GoodIn w_O_hold (wsV R_O 108 R_O y_O_isPart w_O_isPart) := goodIn_p _ [5] rfl (by decide +kernel)
set_option maxRecDepth 20000 in
theorem g_O_hold_stateOf : GoodIn w_O_hold (wsV R_O 117 R_O y_O_stateOf w_O_stateOf) := goodIn_p _ [10] rfl (by decide +kernel)
set_option maxRecDepth 20000 in
theorem g_O_hold_isOpen : GoodIn w_O_hold (wsV R_O 123 R_O y_O_isOpen w_O_isOpen) := goodIn_p _ [17] rfl (by decide +kernel)
set_option maxRecDepth 20000 in
theorem g_O_hold_isIn : GoodIn w_O_hold (wsS R_O 93 y_O_isIn w_O_isIn) := goodIn_p _ [23] rfl (by decide +kernel)
set_option maxHeartbeats 4000000 in
set_option maxRecDepth 100000 in
theorem c_O_hold (l : Launch) (D : va_G) (kC : Nat → ClassId) (ad : Nat → Nat) (td : Nat) (rn : Nat) (pn : Nat) (an : Nat) (jn : Nat) (tn : Nat) (bm : Int32) (fw : Int64) (gp : Nat) (ga : Nat) (bp : Int32) (fc : Int64) (fj : Nat) (rA : Nat → Nat) (rC : Nat → Nat) (ft : Nat → Int32) (kd : Nat → Nat) (aG : Nat → Nat) (sR : Nat → Nat) (sT : Nat → Nat) (wh : Nat → Nat) (dY : Nat → Nat) (pd : Nat → Nat) (cN : Nat → Nat) (mN : Nat → Nat) (sv : Nat → Int32) (nd : Nat → Nat) (wr : Nat → Nat) (tl : Nat → Nat) (lt : Nat → Int32) (lT : Nat → Nat) (lD : Nat → Nat) (gv : Nat → Int32) (gn : Nat → Int64) (od : Nat → Nat) (br : Nat → Nat) (x : Int32) (y : Int32) (z : Int32) (sz : Nat) (hpn : pn ≤ 8) (han : an ≤ 8) (hsT : ∀ j, sT j ≤ 3) (hdY : ∀ j, dY j ≤ 100000) (htd : td ≤ 100000) : Met l y_O_hold w_O_hold ({ frames := 1, cells := 0, slots := 0, locals := 25 } : Room) (gPre cls D (tyL kC) [.ref (ad 0), .int x, .int y, .int z] (fl [(wO kC ad td rn pn an jn tn bm fw gp ga bp fc fj rA rC ft kd aG sR sT wh dY pd cN mN sv nd wr tl lt lT lD gv gn od br)]) sz) (gQi cls D (tyL kC) (fl [(wO kC ad td rn pn an jn tn bm fw gp ga bp fc fj rA rC ft kd aG sR sT wh dY pd cN mN sv nd wr tl lt lT lD gv gn od br)]) sz (bI (inR x pn ∧ stOn (sT (nOf x)) (dY (nOf x)) td = 0 ∧ opn sv an y ∧ inI td 100000 z)) (fl [(wO kC ad td rn pn an jn tn bm fw gp ga bp fc fj rA rC ft kd aG sR (if (inR x pn ∧ stOn (sT (nOf x)) (dY (nOf x)) td = 0 ∧ opn sv an y ∧ inI td 100000 z) then updN sT (nOf x) 1 else sT) (if (inR x pn ∧ stOn (sT (nOf x)) (dY (nOf x)) td = 0 ∧ opn sv an y ∧ inI td 100000 z) then updN wh (nOf x) (nOf y) else wh) (if (inR x pn ∧ stOn (sT (nOf x)) (dY (nOf x)) td = 0 ∧ opn sv an y ∧ inI td 100000 z) then updN dY (nOf x) (nOf z) else dY) pd cN mN sv nd wr tl lt lT lD gv gn od br)])) 0 0 (va_A (fl [(wO kC ad td rn pn an jn tn bm fw gp ga bp fc fj rA rC ft kd aG sR sT wh dY pd cN mN sv nd wr tl lt lT lD gv gn od br)]) sz) := by
  refine Met.ofW (cc := b_O_hold) (maxL := 4) (ret := (some .boolean)) (by decide) rfl ?_
  intro p e s m args below meth c s₁ B hml hv
  obtain ⟨rfl, hsz, hP, hK, hD0⟩ := hv
  have hx := B.exec
  have hb := B.bytes
  have hr := B.returns
  have hts := atoms_spec (ws := w_O_hold) B.pre
  have hown : s.vm.findClass R_O = some m.cls := findClass_of_methodNamed B.named
  have hlocks := B.notSynchronized
  subst hsz
  obtain ⟨A, hAe⟩ : ∃ A : Nat → Prop, A = va_A (fl [(wO kC ad td rn pn an jn tn bm fw gp ga bp fc fj rA rC ft kd aG sR sT wh dY pd cN mN sv nd wr tl lt lT lD gv gn od br)]) s.heap.size := ⟨_, rfl⟩
  have hD : va_D A (fl [(wO kC ad td rn pn an jn tn bm fw gp ga bp fc fj rA rC ft kd aG sR sT wh dY pd cN mN sv nd wr tl lt lT lD gv gn od br)]) := by rw [hAe]; exact hD0.self
  have hA : ∀ q : Nat, s.heap.size ≤ q → A q := fun q h => by rw [hAe]; exact Or.inr h
  have hS : va_S A s.heap s.heap [] := va_S.rf
  have hl := lv_entry ([.ref (ad 0), .int x, .int y, .int z]) (n := 4) (Nat.le_of_ble_eq_true rfl)
  rw [lg_entry_eq]
  generalize (lg_sl ([.ref (ad 0), .int x, .int y, .int z]) ++ List.replicate (4 - (lg_sl ([.ref (ad 0), .int x, .int y, .int z])).length) Slot.unset).toArray = ls at hl ⊢
  have hl : lv_has ls 4 [(0, .ref (ad 0)), (1, .int x), (2, .int y), (3, .int z)] := hl
  refine lv_aload_n hx hb d_O_hold_0 rfl (lv_at hl 0 rfl) ?_
  refine lv_iload_n hx hb d_O_hold_1 rfl (lv_at hl 1 rfl) ?_
  refine r_calli (W.runV (As := [.int x]) (rest := []) ⟨hx, hb, hml, hown, hts⟩ (c_O_isPart l D kC ad td rn pn an jn tn bm fw gp ga bp fc fj rA rC ft kd aG sR sT wh dY pd cN mN sv nd wr tl lt lT lD gv gn od br x (hpn)) (cwV 1 hts g_O_hold_isPart rfl rfl rfl (by decide +kernel) ⟨Nat.le_of_ble_eq_true rfl, Nat.le_of_ble_eq_true rfl⟩) (r_preV (f_recv (ci := 7) (q0 := 0) hK hP 0 rfl rfl rfl) hK hP) rfl rfl hl.1 rfl (lv_room (Nat.le_of_ble_eq_true rfl)) d_O_hold_2 ⟨Nat.le_of_ble_eq_true rfl, Nat.le_of_ble_eq_true rfl⟩) ?_
  refine lv_if_eq (tgt := 40) hx hb d_O_hold_5 (by decide) (fun h1 => ?_) (fun h1 => ?_)
  · have hC : ¬ (inR x pn ∧ stOn (sT (nOf x)) (dY (nOf x)) td = 0 ∧ opn sv an y ∧ inI td 100000 z) := fun q => by first | exact bI_0.mp h4 (inL_i.mpr q.2.2.2) | exact bI_0.mp h3 q.2.2.1 | (have q2 := q.2.1; rw [nOf_nI (by omega)] at q2; exact h2 q2) | exact bI_0.mp h1 q.1
    refine lv_iconst (v := nI 0) hx hb d_O_hold_40 (by decide) ?_
    have ew1 : sT = (if (inR x pn ∧ stOn (sT (nOf x)) (dY (nOf x)) td = 0 ∧ opn sv an y ∧ inI td 100000 z) then updN sT (nOf x) 1 else sT) := (if_neg hC).symm
    have hP : va_P D cls (fl [(wO kC ad td rn pn an jn tn bm fw gp ga bp fc fj rA rC ft kd aG sR (if (inR x pn ∧ stOn (sT (nOf x)) (dY (nOf x)) td = 0 ∧ opn sv an y ∧ inI td 100000 z) then updN sT (nOf x) 1 else sT) wh dY pd cN mN sv nd wr tl lt lT lD gv gn od br)]) s.heap := by rw [← ew1]; exact hP
    have hD : va_D A (fl [(wO kC ad td rn pn an jn tn bm fw gp ga bp fc fj rA rC ft kd aG sR (if (inR x pn ∧ stOn (sT (nOf x)) (dY (nOf x)) td = 0 ∧ opn sv an y ∧ inI td 100000 z) then updN sT (nOf x) 1 else sT) wh dY pd cN mN sv nd wr tl lt lT lD gv gn od br)]) := by rw [← ew1]; exact hD
    have ew2 : wh = (if (inR x pn ∧ stOn (sT (nOf x)) (dY (nOf x)) td = 0 ∧ opn sv an y ∧ inI td 100000 z) then updN wh (nOf x) (nOf y) else wh) := (if_neg hC).symm
    have hP : va_P D cls (fl [(wO kC ad td rn pn an jn tn bm fw gp ga bp fc fj rA rC ft kd aG sR (if (inR x pn ∧ stOn (sT (nOf x)) (dY (nOf x)) td = 0 ∧ opn sv an y ∧ inI td 100000 z) then updN sT (nOf x) 1 else sT) (if (inR x pn ∧ stOn (sT (nOf x)) (dY (nOf x)) td = 0 ∧ opn sv an y ∧ inI td 100000 z) then updN wh (nOf x) (nOf y) else wh) dY pd cN mN sv nd wr tl lt lT lD gv gn od br)]) s.heap := by rw [← ew2]; exact hP
    have hD : va_D A (fl [(wO kC ad td rn pn an jn tn bm fw gp ga bp fc fj rA rC ft kd aG sR (if (inR x pn ∧ stOn (sT (nOf x)) (dY (nOf x)) td = 0 ∧ opn sv an y ∧ inI td 100000 z) then updN sT (nOf x) 1 else sT) (if (inR x pn ∧ stOn (sT (nOf x)) (dY (nOf x)) td = 0 ∧ opn sv an y ∧ inI td 100000 z) then updN wh (nOf x) (nOf y) else wh) dY pd cN mN sv nd wr tl lt lT lD gv gn od br)]) := by rw [← ew2]; exact hD
    have ew3 : dY = (if (inR x pn ∧ stOn (sT (nOf x)) (dY (nOf x)) td = 0 ∧ opn sv an y ∧ inI td 100000 z) then updN dY (nOf x) (nOf z) else dY) := (if_neg hC).symm
    have hP : va_P D cls (fl [(wO kC ad td rn pn an jn tn bm fw gp ga bp fc fj rA rC ft kd aG sR (if (inR x pn ∧ stOn (sT (nOf x)) (dY (nOf x)) td = 0 ∧ opn sv an y ∧ inI td 100000 z) then updN sT (nOf x) 1 else sT) (if (inR x pn ∧ stOn (sT (nOf x)) (dY (nOf x)) td = 0 ∧ opn sv an y ∧ inI td 100000 z) then updN wh (nOf x) (nOf y) else wh) (if (inR x pn ∧ stOn (sT (nOf x)) (dY (nOf x)) td = 0 ∧ opn sv an y ∧ inI td 100000 z) then updN dY (nOf x) (nOf z) else dY) pd cN mN sv nd wr tl lt lT lD gv gn od br)]) s.heap := by rw [← ew3]; exact hP
    have hD : va_D A (fl [(wO kC ad td rn pn an jn tn bm fw gp ga bp fc fj rA rC ft kd aG sR (if (inR x pn ∧ stOn (sT (nOf x)) (dY (nOf x)) td = 0 ∧ opn sv an y ∧ inI td 100000 z) then updN sT (nOf x) 1 else sT) (if (inR x pn ∧ stOn (sT (nOf x)) (dY (nOf x)) td = 0 ∧ opn sv an y ∧ inI td 100000 z) then updN wh (nOf x) (nOf y) else wh) (if (inR x pn ∧ stOn (sT (nOf x)) (dY (nOf x)) td = 0 ∧ opn sv an y ∧ inI td 100000 z) then updN dY (nOf x) (nOf z) else dY) pd cN mN sv nd wr tl lt lT lD gv gn od br)]) := by rw [← ew3]; exact hD
    exact W.zret (v := nI 0) hx hb hr (nar_b (by first | exact Or.inl rfl | exact Or.inr rfl | exact bI_01)) (fun t ht hW => by subst hAe; exact ⟨⟨(nI 0), (), rfl, (bI_f hC).symm, by rw [ht]; exact hP, va_K.moved hW.alike hK, hD⟩, hS.F ht⟩) (by subst hAe; exact hS.2.2) d_O_hold_41
  · have h1 := bI_n0.mp h1
    obtain ⟨j, hj, rfl⟩ := inR_n (by omega) h1
    refine lv_aload_n hx hb d_O_hold_8 rfl (lv_at hl 0 rfl) ?_
    refine lv_iload_n hx hb d_O_hold_9 rfl (lv_at hl 1 rfl) ?_
    refine r_calli (W.runV (As := [.int (nI j)]) (rest := []) ⟨hx, hb, hml, hown, hts⟩ (c_O_stOf l D kC ad td rn pn an jn tn bm fw gp ga bp fc fj rA rC ft kd aG sR sT wh dY pd cN mN sv nd wr tl lt lT lD gv gn od br j (by omega) (hsT) (hdY) (htd)) (cwV 1 hts g_O_hold_stateOf rfl rfl rfl (by decide +kernel) ⟨Nat.le_of_ble_eq_true rfl, Nat.le_of_ble_eq_true rfl⟩) (r_preV (f_recv (ci := 7) (q0 := 0) hK hP 0 rfl rfl rfl) hK hP) rfl rfl hl.1 rfl (lv_room (Nat.le_of_ble_eq_true rfl)) d_O_hold_10 ⟨Nat.le_of_ble_eq_true rfl, Nat.le_of_ble_eq_true rfl⟩) ?_
    refine nv_if_ne (tgt := 40) hx hb d_O_hold_13 (by decide) (Nat.lt_of_le_of_lt (stOn_le (hsT _)) (by decide)) (fun h2 => ?_) (fun h2 => ?_)
    · have hC : ¬ (inR (nI j) pn ∧ stOn (sT (nOf (nI j))) (dY (nOf (nI j))) td = 0 ∧ opn sv an y ∧ inI td 100000 z) := fun q => by first | exact bI_0.mp h4 (inL_i.mpr q.2.2.2) | exact bI_0.mp h3 q.2.2.1 | (have q2 := q.2.1; rw [nOf_nI (by omega)] at q2; exact h2 q2) | exact bI_0.mp h1 q.1
      refine lv_iconst (v := nI 0) hx hb d_O_hold_40 (by decide) ?_
      have ew4 : sT = (if (inR (nI j) pn ∧ stOn (sT (nOf (nI j))) (dY (nOf (nI j))) td = 0 ∧ opn sv an y ∧ inI td 100000 z) then updN sT (nOf (nI j)) 1 else sT) := (if_neg hC).symm
      have hP : va_P D cls (fl [(wO kC ad td rn pn an jn tn bm fw gp ga bp fc fj rA rC ft kd aG sR (if (inR (nI j) pn ∧ stOn (sT (nOf (nI j))) (dY (nOf (nI j))) td = 0 ∧ opn sv an y ∧ inI td 100000 z) then updN sT (nOf (nI j)) 1 else sT) wh dY pd cN mN sv nd wr tl lt lT lD gv gn od br)]) s.heap := by rw [← ew4]; exact hP
      have hD : va_D A (fl [(wO kC ad td rn pn an jn tn bm fw gp ga bp fc fj rA rC ft kd aG sR (if (inR (nI j) pn ∧ stOn (sT (nOf (nI j))) (dY (nOf (nI j))) td = 0 ∧ opn sv an y ∧ inI td 100000 z) then updN sT (nOf (nI j)) 1 else sT) wh dY pd cN mN sv nd wr tl lt lT lD gv gn od br)]) := by rw [← ew4]; exact hD
      have ew5 : wh = (if (inR (nI j) pn ∧ stOn (sT (nOf (nI j))) (dY (nOf (nI j))) td = 0 ∧ opn sv an y ∧ inI td 100000 z) then updN wh (nOf (nI j)) (nOf y) else wh) := (if_neg hC).symm
      have hP : va_P D cls (fl [(wO kC ad td rn pn an jn tn bm fw gp ga bp fc fj rA rC ft kd aG sR (if (inR (nI j) pn ∧ stOn (sT (nOf (nI j))) (dY (nOf (nI j))) td = 0 ∧ opn sv an y ∧ inI td 100000 z) then updN sT (nOf (nI j)) 1 else sT) (if (inR (nI j) pn ∧ stOn (sT (nOf (nI j))) (dY (nOf (nI j))) td = 0 ∧ opn sv an y ∧ inI td 100000 z) then updN wh (nOf (nI j)) (nOf y) else wh) dY pd cN mN sv nd wr tl lt lT lD gv gn od br)]) s.heap := by rw [← ew5]; exact hP
      have hD : va_D A (fl [(wO kC ad td rn pn an jn tn bm fw gp ga bp fc fj rA rC ft kd aG sR (if (inR (nI j) pn ∧ stOn (sT (nOf (nI j))) (dY (nOf (nI j))) td = 0 ∧ opn sv an y ∧ inI td 100000 z) then updN sT (nOf (nI j)) 1 else sT) (if (inR (nI j) pn ∧ stOn (sT (nOf (nI j))) (dY (nOf (nI j))) td = 0 ∧ opn sv an y ∧ inI td 100000 z) then updN wh (nOf (nI j)) (nOf y) else wh) dY pd cN mN sv nd wr tl lt lT lD gv gn od br)]) := by rw [← ew5]; exact hD
      have ew6 : dY = (if (inR (nI j) pn ∧ stOn (sT (nOf (nI j))) (dY (nOf (nI j))) td = 0 ∧ opn sv an y ∧ inI td 100000 z) then updN dY (nOf (nI j)) (nOf z) else dY) := (if_neg hC).symm
      have hP : va_P D cls (fl [(wO kC ad td rn pn an jn tn bm fw gp ga bp fc fj rA rC ft kd aG sR (if (inR (nI j) pn ∧ stOn (sT (nOf (nI j))) (dY (nOf (nI j))) td = 0 ∧ opn sv an y ∧ inI td 100000 z) then updN sT (nOf (nI j)) 1 else sT) (if (inR (nI j) pn ∧ stOn (sT (nOf (nI j))) (dY (nOf (nI j))) td = 0 ∧ opn sv an y ∧ inI td 100000 z) then updN wh (nOf (nI j)) (nOf y) else wh) (if (inR (nI j) pn ∧ stOn (sT (nOf (nI j))) (dY (nOf (nI j))) td = 0 ∧ opn sv an y ∧ inI td 100000 z) then updN dY (nOf (nI j)) (nOf z) else dY) pd cN mN sv nd wr tl lt lT lD gv gn od br)]) s.heap := by rw [← ew6]; exact hP
      have hD : va_D A (fl [(wO kC ad td rn pn an jn tn bm fw gp ga bp fc fj rA rC ft kd aG sR (if (inR (nI j) pn ∧ stOn (sT (nOf (nI j))) (dY (nOf (nI j))) td = 0 ∧ opn sv an y ∧ inI td 100000 z) then updN sT (nOf (nI j)) 1 else sT) (if (inR (nI j) pn ∧ stOn (sT (nOf (nI j))) (dY (nOf (nI j))) td = 0 ∧ opn sv an y ∧ inI td 100000 z) then updN wh (nOf (nI j)) (nOf y) else wh) (if (inR (nI j) pn ∧ stOn (sT (nOf (nI j))) (dY (nOf (nI j))) td = 0 ∧ opn sv an y ∧ inI td 100000 z) then updN dY (nOf (nI j)) (nOf z) else dY) pd cN mN sv nd wr tl lt lT lD gv gn od br)]) := by rw [← ew6]; exact hD
      exact W.zret (v := nI 0) hx hb hr (nar_b (by first | exact Or.inl rfl | exact Or.inr rfl | exact bI_01)) (fun t ht hW => by subst hAe; exact ⟨⟨(nI 0), (), rfl, (bI_f hC).symm, by rw [ht]; exact hP, va_K.moved hW.alike hK, hD⟩, hS.F ht⟩) (by subst hAe; exact hS.2.2) d_O_hold_41
    · refine lv_aload_n hx hb d_O_hold_16 rfl (lv_at hl 0 rfl) ?_
      refine lv_iload_n hx hb d_O_hold_17 rfl (lv_at hl 2 rfl) ?_
      refine r_calli (W.runV (As := [.int y]) (rest := []) ⟨hx, hb, hml, hown, hts⟩ (c_O_isOpen l D kC ad td rn pn an jn tn bm fw gp ga bp fc fj rA rC ft kd aG sR sT wh dY pd cN mN sv nd wr tl lt lT lD gv gn od br y (han)) (cwV 1 hts g_O_hold_isOpen rfl rfl rfl (by decide +kernel) ⟨Nat.le_of_ble_eq_true rfl, Nat.le_of_ble_eq_true rfl⟩) (r_preV (f_recv (ci := 7) (q0 := 0) hK hP 0 rfl rfl rfl) hK hP) rfl rfl hl.1 rfl (lv_room (Nat.le_of_ble_eq_true rfl)) d_O_hold_18 ⟨Nat.le_of_ble_eq_true rfl, Nat.le_of_ble_eq_true rfl⟩) ?_
      refine lv_if_eq (tgt := 40) hx hb d_O_hold_21 (by decide) (fun h3 => ?_) (fun h3 => ?_)
      · have hC : ¬ (inR (nI j) pn ∧ stOn (sT (nOf (nI j))) (dY (nOf (nI j))) td = 0 ∧ opn sv an y ∧ inI td 100000 z) := fun q => by first | exact bI_0.mp h4 (inL_i.mpr q.2.2.2) | exact bI_0.mp h3 q.2.2.1 | (have q2 := q.2.1; rw [nOf_nI (by omega)] at q2; exact h2 q2) | exact bI_0.mp h1 q.1
        refine lv_iconst (v := nI 0) hx hb d_O_hold_40 (by decide) ?_
        have ew7 : sT = (if (inR (nI j) pn ∧ stOn (sT (nOf (nI j))) (dY (nOf (nI j))) td = 0 ∧ opn sv an y ∧ inI td 100000 z) then updN sT (nOf (nI j)) 1 else sT) := (if_neg hC).symm
        have hP : va_P D cls (fl [(wO kC ad td rn pn an jn tn bm fw gp ga bp fc fj rA rC ft kd aG sR (if (inR (nI j) pn ∧ stOn (sT (nOf (nI j))) (dY (nOf (nI j))) td = 0 ∧ opn sv an y ∧ inI td 100000 z) then updN sT (nOf (nI j)) 1 else sT) wh dY pd cN mN sv nd wr tl lt lT lD gv gn od br)]) s.heap := by rw [← ew7]; exact hP
        have hD : va_D A (fl [(wO kC ad td rn pn an jn tn bm fw gp ga bp fc fj rA rC ft kd aG sR (if (inR (nI j) pn ∧ stOn (sT (nOf (nI j))) (dY (nOf (nI j))) td = 0 ∧ opn sv an y ∧ inI td 100000 z) then updN sT (nOf (nI j)) 1 else sT) wh dY pd cN mN sv nd wr tl lt lT lD gv gn od br)]) := by rw [← ew7]; exact hD
        have ew8 : wh = (if (inR (nI j) pn ∧ stOn (sT (nOf (nI j))) (dY (nOf (nI j))) td = 0 ∧ opn sv an y ∧ inI td 100000 z) then updN wh (nOf (nI j)) (nOf y) else wh) := (if_neg hC).symm
        have hP : va_P D cls (fl [(wO kC ad td rn pn an jn tn bm fw gp ga bp fc fj rA rC ft kd aG sR (if (inR (nI j) pn ∧ stOn (sT (nOf (nI j))) (dY (nOf (nI j))) td = 0 ∧ opn sv an y ∧ inI td 100000 z) then updN sT (nOf (nI j)) 1 else sT) (if (inR (nI j) pn ∧ stOn (sT (nOf (nI j))) (dY (nOf (nI j))) td = 0 ∧ opn sv an y ∧ inI td 100000 z) then updN wh (nOf (nI j)) (nOf y) else wh) dY pd cN mN sv nd wr tl lt lT lD gv gn od br)]) s.heap := by rw [← ew8]; exact hP
        have hD : va_D A (fl [(wO kC ad td rn pn an jn tn bm fw gp ga bp fc fj rA rC ft kd aG sR (if (inR (nI j) pn ∧ stOn (sT (nOf (nI j))) (dY (nOf (nI j))) td = 0 ∧ opn sv an y ∧ inI td 100000 z) then updN sT (nOf (nI j)) 1 else sT) (if (inR (nI j) pn ∧ stOn (sT (nOf (nI j))) (dY (nOf (nI j))) td = 0 ∧ opn sv an y ∧ inI td 100000 z) then updN wh (nOf (nI j)) (nOf y) else wh) dY pd cN mN sv nd wr tl lt lT lD gv gn od br)]) := by rw [← ew8]; exact hD
        have ew9 : dY = (if (inR (nI j) pn ∧ stOn (sT (nOf (nI j))) (dY (nOf (nI j))) td = 0 ∧ opn sv an y ∧ inI td 100000 z) then updN dY (nOf (nI j)) (nOf z) else dY) := (if_neg hC).symm
        have hP : va_P D cls (fl [(wO kC ad td rn pn an jn tn bm fw gp ga bp fc fj rA rC ft kd aG sR (if (inR (nI j) pn ∧ stOn (sT (nOf (nI j))) (dY (nOf (nI j))) td = 0 ∧ opn sv an y ∧ inI td 100000 z) then updN sT (nOf (nI j)) 1 else sT) (if (inR (nI j) pn ∧ stOn (sT (nOf (nI j))) (dY (nOf (nI j))) td = 0 ∧ opn sv an y ∧ inI td 100000 z) then updN wh (nOf (nI j)) (nOf y) else wh) (if (inR (nI j) pn ∧ stOn (sT (nOf (nI j))) (dY (nOf (nI j))) td = 0 ∧ opn sv an y ∧ inI td 100000 z) then updN dY (nOf (nI j)) (nOf z) else dY) pd cN mN sv nd wr tl lt lT lD gv gn od br)]) s.heap := by rw [← ew9]; exact hP
        have hD : va_D A (fl [(wO kC ad td rn pn an jn tn bm fw gp ga bp fc fj rA rC ft kd aG sR (if (inR (nI j) pn ∧ stOn (sT (nOf (nI j))) (dY (nOf (nI j))) td = 0 ∧ opn sv an y ∧ inI td 100000 z) then updN sT (nOf (nI j)) 1 else sT) (if (inR (nI j) pn ∧ stOn (sT (nOf (nI j))) (dY (nOf (nI j))) td = 0 ∧ opn sv an y ∧ inI td 100000 z) then updN wh (nOf (nI j)) (nOf y) else wh) (if (inR (nI j) pn ∧ stOn (sT (nOf (nI j))) (dY (nOf (nI j))) td = 0 ∧ opn sv an y ∧ inI td 100000 z) then updN dY (nOf (nI j)) (nOf z) else dY) pd cN mN sv nd wr tl lt lT lD gv gn od br)]) := by rw [← ew9]; exact hD
        exact W.zret (v := nI 0) hx hb hr (nar_b (by first | exact Or.inl rfl | exact Or.inr rfl | exact bI_01)) (fun t ht hW => by subst hAe; exact ⟨⟨(nI 0), (), rfl, (bI_f hC).symm, by rw [ht]; exact hP, va_K.moved hW.alike hK, hD⟩, hS.F ht⟩) (by subst hAe; exact hS.2.2) d_O_hold_41
      · have h3 := bI_n0.mp h3
        refine lv_iload_n hx hb d_O_hold_24 rfl (lv_at hl 3 rfl) ?_
        refine lv_i2l hx hb d_O_hold_25 rfl ?_
        refine lv_aload_n hx hb d_O_hold_26 rfl (lv_at hl 0 rfl) ?_
        refine fv_get (ci := 7) (v := .int (nI td)) (C := R_O) (T := F_O) (N := 36) hx hb hts (by decide +kernel) hown hK hP 0 0 rfl rfl rfl 0 (by decide) (hts (.fieldLink R_O 88 "PartShelvesModel" "today" "I") (by decide +kernel)) (fun _ h9 => h9) rfl d_O_hold_27 ?_
        refine nv_i2l hx hb d_O_hold_30 (by omega) ?_
        refine lv_ldc2 (v := 100000) hx hb hown (hts (.constantLong R_O 91 100000) (by decide +kernel)) d_O_hold_31 ?_
        refine nv_topl (y := lN 100000) (by decide +kernel) ?_
        refine r_calli (W.runS (As := [.long z.toInt64, .long (lN td), .long (lN 100000)]) (rest := []) ⟨hx, hb, hml, hown, hts⟩ (c_O_isIn l z.toInt64 td 100000 (by omega) (by decide)) (cwS 3 hts g_O_hold_isIn rfl rfl rfl (by decide +kernel) ⟨Nat.le_of_ble_eq_true rfl, Nat.le_of_ble_eq_true rfl⟩) p0_preS rfl rfl hl.1 rfl (lv_room (Nat.le_of_ble_eq_true rfl)) d_O_hold_34 ⟨Nat.le_of_ble_eq_true rfl, Nat.le_of_ble_eq_true rfl⟩) ?_
        refine lv_if_ne (tgt := 42) hx hb d_O_hold_37 (by decide) (fun h4 => ?_) (fun h4 => ?_)
        · have h4 := inL_i.mp (bI_n0.mp h4)
          have hC : (inR (nI j) pn ∧ stOn (sT (nOf (nI j))) (dY (nOf (nI j))) td = 0 ∧ opn sv an y ∧ inI td 100000 z) := ⟨h1, by rw [nOf_nI (by omega)]; exact h2, h3, h4⟩
          obtain ⟨k, hk, rfl⟩ := inR_n (by omega) h3.1
          obtain ⟨i, hi1, hi2, rfl⟩ := inI_n (by decide) h4
          refine lv_aload_n hx hb d_O_hold_42 rfl (lv_at hl 0 rfl) ?_
          refine fv_get (ci := 7) (v := .ref (ad 7)) (C := R_O) (T := F_O) (N := 36) hx hb hts (by decide +kernel) hown hK hP 0 0 rfl rfl rfl 9 (by decide) (hts (.fieldLink R_O 30 "PartShelvesModel" "states" "[I") (by decide +kernel)) (fun _ h9 => h9) rfl d_O_hold_43 ?_
          refine lv_iload_n hx hb d_O_hold_46 rfl (lv_at hl 1 rfl) ?_
          refine lv_iconst (v := nI 1) hx hb d_O_hold_47 (by decide) ?_
          refine fa_iastN hx hb hK hP hD hS 0 7 0 rfl rfl rfl (by omega) (by decide) d_O_hold_48 (fun H locs hP hD hS => ?_)
          have hP : va_P D cls (fl [(wO kC ad td rn pn an jn tn bm fw gp ga bp fc fj rA rC ft kd aG sR (updN sT j 1) wh dY pd cN mN sv nd wr tl lt lT lD gv gn od br)]) H := hP
          have hD : va_D A (fl [(wO kC ad td rn pn an jn tn bm fw gp ga bp fc fj rA rC ft kd aG sR (updN sT j 1) wh dY pd cN mN sv nd wr tl lt lT lD gv gn od br)]) := hD
          refine lv_aload_n hx hb d_O_hold_49 rfl (lv_at hl 0 rfl) ?_
          refine fv_get (ci := 7) (v := .ref (ad 8)) (C := R_O) (T := F_O) (N := 36) hx hb hts (by decide +kernel) hown hK hP 0 0 rfl rfl rfl 10 (by decide) (hts (.fieldLink R_O 33 "PartShelvesModel" "whose" "[I") (by decide +kernel)) (fun _ h9 => h9) rfl d_O_hold_50 ?_
          refine lv_iload_n hx hb d_O_hold_53 rfl (lv_at hl 1 rfl) ?_
          refine lv_iload_n hx hb d_O_hold_54 rfl (lv_at hl 2 rfl) ?_
          refine fa_iastN hx hb hK hP hD hS 0 8 0 rfl rfl rfl (by omega) (by decide) d_O_hold_55 (fun H locs hP hD hS => ?_)
          have hP : va_P D cls (fl [(wO kC ad td rn pn an jn tn bm fw gp ga bp fc fj rA rC ft kd aG sR (updN sT j 1) (updN wh j k) dY pd cN mN sv nd wr tl lt lT lD gv gn od br)]) H := hP
          have hD : va_D A (fl [(wO kC ad td rn pn an jn tn bm fw gp ga bp fc fj rA rC ft kd aG sR (updN sT j 1) (updN wh j k) dY pd cN mN sv nd wr tl lt lT lD gv gn od br)]) := hD
          refine lv_aload_n hx hb d_O_hold_56 rfl (lv_at hl 0 rfl) ?_
          refine fv_get (ci := 7) (v := .ref (ad 9)) (C := R_O) (T := F_O) (N := 36) hx hb hts (by decide +kernel) hown hK hP 0 0 rfl rfl rfl 11 (by decide) (hts (.fieldLink R_O 36 "PartShelvesModel" "days" "[I") (by decide +kernel)) (fun _ h9 => h9) rfl d_O_hold_57 ?_
          refine lv_iload_n hx hb d_O_hold_60 rfl (lv_at hl 1 rfl) ?_
          refine lv_iload_n hx hb d_O_hold_61 rfl (lv_at hl 3 rfl) ?_
          refine fa_iastN hx hb hK hP hD hS 0 9 0 rfl rfl rfl (by omega) (by decide) d_O_hold_62 (fun H locs hP hD hS => ?_)
          have hP : va_P D cls (fl [(wO kC ad td rn pn an jn tn bm fw gp ga bp fc fj rA rC ft kd aG sR (updN sT j 1) (updN wh j k) (updN dY j i) pd cN mN sv nd wr tl lt lT lD gv gn od br)]) H := hP
          have hD : va_D A (fl [(wO kC ad td rn pn an jn tn bm fw gp ga bp fc fj rA rC ft kd aG sR (updN sT j 1) (updN wh j k) (updN dY j i) pd cN mN sv nd wr tl lt lT lD gv gn od br)]) := hD
          refine lv_iconst (v := nI 1) hx hb d_O_hold_63 (by decide) ?_
          have ew10 : (updN sT j 1) = (if (inR (nI j) pn ∧ stOn (sT (nOf (nI j))) (dY (nOf (nI j))) td = 0 ∧ opn sv an (nI k) ∧ inI td 100000 (nI i)) then updN sT (nOf (nI j)) 1 else sT) := by rw [if_pos hC, nOf_nI (by omega)]
          have hP : va_P D cls (fl [(wO kC ad td rn pn an jn tn bm fw gp ga bp fc fj rA rC ft kd aG sR (if (inR (nI j) pn ∧ stOn (sT (nOf (nI j))) (dY (nOf (nI j))) td = 0 ∧ opn sv an (nI k) ∧ inI td 100000 (nI i)) then updN sT (nOf (nI j)) 1 else sT) (updN wh j k) (updN dY j i) pd cN mN sv nd wr tl lt lT lD gv gn od br)]) H := by rw [← ew10]; exact hP
          have hD : va_D A (fl [(wO kC ad td rn pn an jn tn bm fw gp ga bp fc fj rA rC ft kd aG sR (if (inR (nI j) pn ∧ stOn (sT (nOf (nI j))) (dY (nOf (nI j))) td = 0 ∧ opn sv an (nI k) ∧ inI td 100000 (nI i)) then updN sT (nOf (nI j)) 1 else sT) (updN wh j k) (updN dY j i) pd cN mN sv nd wr tl lt lT lD gv gn od br)]) := by rw [← ew10]; exact hD
          have ew11 : (updN wh j k) = (if (inR (nI j) pn ∧ stOn (sT (nOf (nI j))) (dY (nOf (nI j))) td = 0 ∧ opn sv an (nI k) ∧ inI td 100000 (nI i)) then updN wh (nOf (nI j)) (nOf (nI k)) else wh) := by rw [if_pos hC, nOf_nI (by omega), nOf_nI (by omega)]
          have hP : va_P D cls (fl [(wO kC ad td rn pn an jn tn bm fw gp ga bp fc fj rA rC ft kd aG sR (if (inR (nI j) pn ∧ stOn (sT (nOf (nI j))) (dY (nOf (nI j))) td = 0 ∧ opn sv an (nI k) ∧ inI td 100000 (nI i)) then updN sT (nOf (nI j)) 1 else sT) (if (inR (nI j) pn ∧ stOn (sT (nOf (nI j))) (dY (nOf (nI j))) td = 0 ∧ opn sv an (nI k) ∧ inI td 100000 (nI i)) then updN wh (nOf (nI j)) (nOf (nI k)) else wh) (updN dY j i) pd cN mN sv nd wr tl lt lT lD gv gn od br)]) H := by rw [← ew11]; exact hP
          have hD : va_D A (fl [(wO kC ad td rn pn an jn tn bm fw gp ga bp fc fj rA rC ft kd aG sR (if (inR (nI j) pn ∧ stOn (sT (nOf (nI j))) (dY (nOf (nI j))) td = 0 ∧ opn sv an (nI k) ∧ inI td 100000 (nI i)) then updN sT (nOf (nI j)) 1 else sT) (if (inR (nI j) pn ∧ stOn (sT (nOf (nI j))) (dY (nOf (nI j))) td = 0 ∧ opn sv an (nI k) ∧ inI td 100000 (nI i)) then updN wh (nOf (nI j)) (nOf (nI k)) else wh) (updN dY j i) pd cN mN sv nd wr tl lt lT lD gv gn od br)]) := by rw [← ew11]; exact hD
          have ew12 : (updN dY j i) = (if (inR (nI j) pn ∧ stOn (sT (nOf (nI j))) (dY (nOf (nI j))) td = 0 ∧ opn sv an (nI k) ∧ inI td 100000 (nI i)) then updN dY (nOf (nI j)) (nOf (nI i)) else dY) := by rw [if_pos hC, nOf_nI (by omega), nOf_nI (by omega)]
          have hP : va_P D cls (fl [(wO kC ad td rn pn an jn tn bm fw gp ga bp fc fj rA rC ft kd aG sR (if (inR (nI j) pn ∧ stOn (sT (nOf (nI j))) (dY (nOf (nI j))) td = 0 ∧ opn sv an (nI k) ∧ inI td 100000 (nI i)) then updN sT (nOf (nI j)) 1 else sT) (if (inR (nI j) pn ∧ stOn (sT (nOf (nI j))) (dY (nOf (nI j))) td = 0 ∧ opn sv an (nI k) ∧ inI td 100000 (nI i)) then updN wh (nOf (nI j)) (nOf (nI k)) else wh) (if (inR (nI j) pn ∧ stOn (sT (nOf (nI j))) (dY (nOf (nI j))) td = 0 ∧ opn sv an (nI k) ∧ inI td 100000 (nI i)) then updN dY (nOf (nI j)) (nOf (nI i)) else dY) pd cN mN sv nd wr tl lt lT lD gv gn od br)]) H := by rw [← ew12]; exact hP
          have hD : va_D A (fl [(wO kC ad td rn pn an jn tn bm fw gp ga bp fc fj rA rC ft kd aG sR (if (inR (nI j) pn ∧ stOn (sT (nOf (nI j))) (dY (nOf (nI j))) td = 0 ∧ opn sv an (nI k) ∧ inI td 100000 (nI i)) then updN sT (nOf (nI j)) 1 else sT) (if (inR (nI j) pn ∧ stOn (sT (nOf (nI j))) (dY (nOf (nI j))) td = 0 ∧ opn sv an (nI k) ∧ inI td 100000 (nI i)) then updN wh (nOf (nI j)) (nOf (nI k)) else wh) (if (inR (nI j) pn ∧ stOn (sT (nOf (nI j))) (dY (nOf (nI j))) td = 0 ∧ opn sv an (nI k) ∧ inI td 100000 (nI i)) then updN dY (nOf (nI j)) (nOf (nI i)) else dY) pd cN mN sv nd wr tl lt lT lD gv gn od br)]) := by rw [← ew12]; exact hD
          exact W.zret (v := nI 1) hx hb hr (nar_b (by first | exact Or.inl rfl | exact Or.inr rfl | exact bI_01)) (fun t ht hW => by subst hAe; exact ⟨⟨(nI 1), (), rfl, (bI_t hC).symm, by rw [ht]; exact hP, va_K.moved hW.alike hK, hD⟩, hS.F ht⟩) (by subst hAe; exact hS.2.2) d_O_hold_64
        · have hC : ¬ (inR (nI j) pn ∧ stOn (sT (nOf (nI j))) (dY (nOf (nI j))) td = 0 ∧ opn sv an y ∧ inI td 100000 z) := fun q => by first | exact bI_0.mp h4 (inL_i.mpr q.2.2.2) | exact bI_0.mp h3 q.2.2.1 | (have q2 := q.2.1; rw [nOf_nI (by omega)] at q2; exact h2 q2) | exact bI_0.mp h1 q.1
          refine lv_iconst (v := nI 0) hx hb d_O_hold_40 (by decide) ?_
          have ew13 : sT = (if (inR (nI j) pn ∧ stOn (sT (nOf (nI j))) (dY (nOf (nI j))) td = 0 ∧ opn sv an y ∧ inI td 100000 z) then updN sT (nOf (nI j)) 1 else sT) := (if_neg hC).symm
          have hP : va_P D cls (fl [(wO kC ad td rn pn an jn tn bm fw gp ga bp fc fj rA rC ft kd aG sR (if (inR (nI j) pn ∧ stOn (sT (nOf (nI j))) (dY (nOf (nI j))) td = 0 ∧ opn sv an y ∧ inI td 100000 z) then updN sT (nOf (nI j)) 1 else sT) wh dY pd cN mN sv nd wr tl lt lT lD gv gn od br)]) s.heap := by rw [← ew13]; exact hP
          have hD : va_D A (fl [(wO kC ad td rn pn an jn tn bm fw gp ga bp fc fj rA rC ft kd aG sR (if (inR (nI j) pn ∧ stOn (sT (nOf (nI j))) (dY (nOf (nI j))) td = 0 ∧ opn sv an y ∧ inI td 100000 z) then updN sT (nOf (nI j)) 1 else sT) wh dY pd cN mN sv nd wr tl lt lT lD gv gn od br)]) := by rw [← ew13]; exact hD
          have ew14 : wh = (if (inR (nI j) pn ∧ stOn (sT (nOf (nI j))) (dY (nOf (nI j))) td = 0 ∧ opn sv an y ∧ inI td 100000 z) then updN wh (nOf (nI j)) (nOf y) else wh) := (if_neg hC).symm
          have hP : va_P D cls (fl [(wO kC ad td rn pn an jn tn bm fw gp ga bp fc fj rA rC ft kd aG sR (if (inR (nI j) pn ∧ stOn (sT (nOf (nI j))) (dY (nOf (nI j))) td = 0 ∧ opn sv an y ∧ inI td 100000 z) then updN sT (nOf (nI j)) 1 else sT) (if (inR (nI j) pn ∧ stOn (sT (nOf (nI j))) (dY (nOf (nI j))) td = 0 ∧ opn sv an y ∧ inI td 100000 z) then updN wh (nOf (nI j)) (nOf y) else wh) dY pd cN mN sv nd wr tl lt lT lD gv gn od br)]) s.heap := by rw [← ew14]; exact hP
          have hD : va_D A (fl [(wO kC ad td rn pn an jn tn bm fw gp ga bp fc fj rA rC ft kd aG sR (if (inR (nI j) pn ∧ stOn (sT (nOf (nI j))) (dY (nOf (nI j))) td = 0 ∧ opn sv an y ∧ inI td 100000 z) then updN sT (nOf (nI j)) 1 else sT) (if (inR (nI j) pn ∧ stOn (sT (nOf (nI j))) (dY (nOf (nI j))) td = 0 ∧ opn sv an y ∧ inI td 100000 z) then updN wh (nOf (nI j)) (nOf y) else wh) dY pd cN mN sv nd wr tl lt lT lD gv gn od br)]) := by rw [← ew14]; exact hD
          have ew15 : dY = (if (inR (nI j) pn ∧ stOn (sT (nOf (nI j))) (dY (nOf (nI j))) td = 0 ∧ opn sv an y ∧ inI td 100000 z) then updN dY (nOf (nI j)) (nOf z) else dY) := (if_neg hC).symm
          have hP : va_P D cls (fl [(wO kC ad td rn pn an jn tn bm fw gp ga bp fc fj rA rC ft kd aG sR (if (inR (nI j) pn ∧ stOn (sT (nOf (nI j))) (dY (nOf (nI j))) td = 0 ∧ opn sv an y ∧ inI td 100000 z) then updN sT (nOf (nI j)) 1 else sT) (if (inR (nI j) pn ∧ stOn (sT (nOf (nI j))) (dY (nOf (nI j))) td = 0 ∧ opn sv an y ∧ inI td 100000 z) then updN wh (nOf (nI j)) (nOf y) else wh) (if (inR (nI j) pn ∧ stOn (sT (nOf (nI j))) (dY (nOf (nI j))) td = 0 ∧ opn sv an y ∧ inI td 100000 z) then updN dY (nOf (nI j)) (nOf z) else dY) pd cN mN sv nd wr tl lt lT lD gv gn od br)]) s.heap := by rw [← ew15]; exact hP
          have hD : va_D A (fl [(wO kC ad td rn pn an jn tn bm fw gp ga bp fc fj rA rC ft kd aG sR (if (inR (nI j) pn ∧ stOn (sT (nOf (nI j))) (dY (nOf (nI j))) td = 0 ∧ opn sv an y ∧ inI td 100000 z) then updN sT (nOf (nI j)) 1 else sT) (if (inR (nI j) pn ∧ stOn (sT (nOf (nI j))) (dY (nOf (nI j))) td = 0 ∧ opn sv an y ∧ inI td 100000 z) then updN wh (nOf (nI j)) (nOf y) else wh) (if (inR (nI j) pn ∧ stOn (sT (nOf (nI j))) (dY (nOf (nI j))) td = 0 ∧ opn sv an y ∧ inI td 100000 z) then updN dY (nOf (nI j)) (nOf z) else dY) pd cN mN sv nd wr tl lt lT lD gv gn od br)]) := by rw [← ew15]; exact hD
          exact W.zret (v := nI 0) hx hb hr (nar_b (by first | exact Or.inl rfl | exact Or.inr rfl | exact bI_01)) (fun t ht hW => by subst hAe; exact ⟨⟨(nI 0), (), rfl, (bI_f hC).symm, by rw [ht]; exact hP, va_K.moved hW.alike hK, hD⟩, hS.F ht⟩) (by subst hAe; exact hS.2.2) d_O_hold_41

abbrev b_O_of : ByteArray := prog_9_method_23_code
def y_O_of : MethodName := ⟨"PartShelvesModel", "of", "(I)I"⟩
theorem d_O_of_0 : decode b_O_of 0 = .ok (.iload_n 1, 1) := by decide +kernel
theorem d_O_of_1 : decode b_O_of 1 = .ok (.ifCond .lt 18, 3) := by decide +kernel
theorem d_O_of_4 : decode b_O_of 4 = .ok (.iload_n 1, 1) := by decide +kernel
theorem d_O_of_5 : decode b_O_of 5 = .ok (.bipush 8, 2) := by decide +kernel
theorem d_O_of_7 : decode b_O_of 7 = .ok (.if_icmp .ge 12, 3) := by decide +kernel
theorem d_O_of_10 : decode b_O_of 10 = .ok (.aload_n 0, 1) := by decide +kernel
theorem d_O_of_11 : decode b_O_of 11 = .ok (.getfield 69, 3) := by decide +kernel
theorem d_O_of_14 : decode b_O_of 14 = .ok (.iload_n 1, 1) := by decide +kernel
theorem d_O_of_15 : decode b_O_of 15 = .ok (.iaload, 1) := by decide +kernel
theorem d_O_of_16 : decode b_O_of 16 = .ok (.goto 4, 3) := by decide +kernel
theorem d_O_of_19 : decode b_O_of 19 = .ok (.iconst (-1), 1) := by decide +kernel
theorem d_O_of_20 : decode b_O_of 20 = .ok (.ireturn, 1) := by decide +kernel
def w_O_of : List Cond := .code y_O_of b_O_of 2 (some .int) :: ([.fieldLink "PartShelvesModel" 69 "PartShelvesModel" "given" "[I"] ++ u_ws R_O F_O 36)
set_option maxHeartbeats 4000000 in
set_option maxRecDepth 100000 in
theorem c_O_of (l : Launch) (D : va_G) (kC : Nat → ClassId) (ad : Nat → Nat) (td : Nat) (rn : Nat) (pn : Nat) (an : Nat) (jn : Nat) (tn : Nat) (bm : Int32) (fw : Int64) (gp : Nat) (ga : Nat) (bp : Int32) (fc : Int64) (fj : Nat) (rA : Nat → Nat) (rC : Nat → Nat) (ft : Nat → Int32) (kd : Nat → Nat) (aG : Nat → Nat) (sR : Nat → Nat) (sT : Nat → Nat) (wh : Nat → Nat) (dY : Nat → Nat) (pd : Nat → Nat) (cN : Nat → Nat) (mN : Nat → Nat) (sv : Nat → Int32) (nd : Nat → Nat) (wr : Nat → Nat) (tl : Nat → Nat) (lt : Nat → Int32) (lT : Nat → Nat) (lD : Nat → Nat) (gv : Nat → Int32) (gn : Nat → Int64) (od : Nat → Nat) (br : Nat → Nat) (x : Int32) : Met l y_O_of w_O_of ({ frames := 0, cells := 0, slots := 0, locals := 0 } : Room) (gPr cls D (tyL kC) [.ref (ad 0), .int x] (fl [(wO kC ad td rn pn an jn tn bm fw gp ga bp fc fj rA rC ft kd aG sR sT wh dY pd cN mN sv nd wr tl lt lT lD gv gn od br)])) (vp_Si (fun r => r = atR gv (-1) x 8)) 0 0 (fun _ => False) := by
  refine Met.ofW (cc := b_O_of) (maxL := 2) (ret := (some .int)) (by decide) rfl ?_
  intro p e s m args below meth c s₁ B hml hv
  obtain ⟨rfl, hP, hK⟩ := hv
  have hx := B.exec
  have hb := B.bytes
  have hr := B.returns
  have hts := atoms_spec (ws := w_O_of) B.pre
  have hown : s.vm.findClass R_O = some m.cls := findClass_of_methodNamed B.named
  have hlocks := B.notSynchronized
  have hl := lv_entry ([.ref (ad 0), .int x]) (n := 2) (Nat.le_of_ble_eq_true rfl)
  rw [lg_entry_eq]
  generalize (lg_sl ([.ref (ad 0), .int x]) ++ List.replicate (2 - (lg_sl ([.ref (ad 0), .int x])).length) Slot.unset).toArray = ls at hl ⊢
  have hl : lv_has ls 2 [(0, .ref (ad 0)), (1, .int x)] := hl
  refine lv_iload_n hx hb d_O_of_0 rfl (lv_at hl 1 rfl) ?_
  refine lv_if_lt (tgt := 19) hx hb d_O_of_1 (by decide) (fun h0 => ?_) (fun h0 => ?_)
  · refine lv_iconst (v := (-1)) hx hb d_O_of_19 (by decide) ?_
    exact W.iret (v := (-1)) hx hb hr (fun t ht hW => ⟨_, rfl, (atR_no (by first | exact inR_ge (by decide) h1 | exact inR_lt h0)).symm, ht⟩) t_nil d_O_of_20
  · refine lv_iload_n hx hb d_O_of_4 rfl (lv_at hl 1 rfl) ?_
    refine lv_bipush (v := nI 8) hx hb d_O_of_5 (by decide +kernel) ?_
    refine lv_icmp_ge (tgt := 19) hx hb d_O_of_7 (by decide) (fun h1 => ?_) (fun h1 => ?_)
    · refine lv_iconst (v := (-1)) hx hb d_O_of_19 (by decide) ?_
      exact W.iret (v := (-1)) hx hb hr (fun t ht hW => ⟨_, rfl, (atR_no (by first | exact inR_ge (by decide) h1 | exact inR_lt h0)).symm, ht⟩) t_nil d_O_of_20
    · obtain ⟨j, hj, rfl⟩ := in_of (by decide) h0 h1
      refine lv_aload_n hx hb d_O_of_10 rfl (lv_at hl 0 rfl) ?_
      refine fv_get (ci := 7) (v := .ref (ad 20)) (C := R_O) (T := F_O) (N := 36) hx hb hts (by decide +kernel) hown hK hP 0 0 rfl rfl rfl 27 (by decide) (hts (.fieldLink R_O 69 "PartShelvesModel" "given" "[I") (by decide +kernel)) (fun _ h9 => h9) rfl d_O_of_11 ?_
      refine lv_iload_n hx hb d_O_of_14 rfl (lv_at hl 1 rfl) ?_
      refine fa_iald hx hb hK hP 0 20 0 rfl rfl rfl (by omega) (by decide) d_O_of_15 ?_
      refine lv_goto (tgt := 20) hx hb d_O_of_16 (by decide) ?_
      exact W.iret (v := gv j) hx hb hr (fun t ht hW => ⟨_, rfl, (atR_nI hj (by decide)).symm, ht⟩) t_nil d_O_of_20

abbrev b_O_worth : ByteArray := prog_9_method_24_code
def y_O_worth : MethodName := ⟨"PartShelvesModel", "worth", "()J"⟩
theorem d_O_worth_0 : decode b_O_worth 0 = .ok (.aload_n 0, 1) := by decide +kernel
theorem d_O_worth_1 : decode b_O_worth 1 = .ok (.getfield 148, 3) := by decide +kernel
theorem d_O_worth_4 : decode b_O_worth 4 = .ok (.ifCond .eq 10, 3) := by decide +kernel
theorem d_O_worth_7 : decode b_O_worth 7 = .ok (.aload_n 0, 1) := by decide +kernel
theorem d_O_worth_8 : decode b_O_worth 8 = .ok (.getfield 144, 3) := by decide +kernel
theorem d_O_worth_11 : decode b_O_worth 11 = .ok (.goto 6, 3) := by decide +kernel
theorem d_O_worth_14 : decode b_O_worth 14 = .ok (.ldc2_w 115, 3) := by decide +kernel
theorem d_O_worth_17 : decode b_O_worth 17 = .ok (.lreturn, 1) := by decide +kernel
def w_O_worth : List Cond := .code y_O_worth b_O_worth 1 (some .long) :: ([.fieldLink "PartShelvesModel" 148 "PartShelvesModel" "isMatched" "Z", .fieldLink "PartShelvesModel" 144 "PartShelvesModel" "foundWorth" "J", .constantLong "PartShelvesModel" 115 (-1)] ++ u_ws R_O F_O 36)
set_option maxHeartbeats 4000000 in
set_option maxRecDepth 100000 in
theorem c_O_worth (l : Launch) (D : va_G) (kC : Nat → ClassId) (ad : Nat → Nat) (td : Nat) (rn : Nat) (pn : Nat) (an : Nat) (jn : Nat) (tn : Nat) (bm : Int32) (fw : Int64) (gp : Nat) (ga : Nat) (bp : Int32) (fc : Int64) (fj : Nat) (rA : Nat → Nat) (rC : Nat → Nat) (ft : Nat → Int32) (kd : Nat → Nat) (aG : Nat → Nat) (sR : Nat → Nat) (sT : Nat → Nat) (wh : Nat → Nat) (dY : Nat → Nat) (pd : Nat → Nat) (cN : Nat → Nat) (mN : Nat → Nat) (sv : Nat → Int32) (nd : Nat → Nat) (wr : Nat → Nat) (tl : Nat → Nat) (lt : Nat → Int32) (lT : Nat → Nat) (lD : Nat → Nat) (gv : Nat → Int32) (gn : Nat → Int64) (od : Nat → Nat) (br : Nat → Nat) : Met l y_O_worth w_O_worth ({ frames := 0, cells := 0, slots := 0, locals := 0 } : Room) (gPr cls D (tyL kC) [.ref (ad 0)] (fl [(wO kC ad td rn pn an jn tn bm fw gp ga bp fc fj rA rC ft kd aG sR sT wh dY pd cN mN sv nd wr tl lt lT lD gv gn od br)])) (vp_Sl (fun r => r = (if bm = 0 then -1 else fw))) 0 0 (fun _ => False) := by
  refine Met.ofW (cc := b_O_worth) (maxL := 1) (ret := (some .long)) (by decide) rfl ?_
  intro p e s m args below meth c s₁ B hml hv
  obtain ⟨rfl, hP, hK⟩ := hv
  have hx := B.exec
  have hb := B.bytes
  have hr := B.returns
  have hts := atoms_spec (ws := w_O_worth) B.pre
  have hown : s.vm.findClass R_O = some m.cls := findClass_of_methodNamed B.named
  have hlocks := B.notSynchronized
  have hl := lv_entry ([.ref (ad 0)]) (n := 1) (Nat.le_of_ble_eq_true rfl)
  rw [lg_entry_eq]
  generalize (lg_sl ([.ref (ad 0)]) ++ List.replicate (1 - (lg_sl ([.ref (ad 0)])).length) Slot.unset).toArray = ls at hl ⊢
  have hl : lv_has ls 1 [(0, .ref (ad 0))] := hl
  refine lv_aload_n hx hb d_O_worth_0 rfl (lv_at hl 0 rfl) ?_
  refine fv_get (ci := 7) (v := .int bm) (C := R_O) (T := F_O) (N := 36) hx hb hts (by decide +kernel) hown hK hP 0 0 rfl rfl rfl 25 (by decide) (hts (.fieldLink R_O 148 "PartShelvesModel" "isMatched" "Z") (by decide +kernel)) (fun _ h9 => h9) rfl d_O_worth_1 ?_
  refine lv_if_eq (tgt := 14) hx hb d_O_worth_4 (by decide) (fun h0 => ?_) (fun h0 => ?_)
  · refine lv_ldc2 (v := (-1)) hx hb hown (hts (.constantLong R_O 115 (-1)) (by decide +kernel)) d_O_worth_14 ?_
    exact W.lret (v := (-1)) hx hb hr (fun t ht hW => ⟨_, rfl, (if_pos h0).symm, ht⟩) t_nil d_O_worth_17
  · refine lv_aload_n hx hb d_O_worth_7 rfl (lv_at hl 0 rfl) ?_
    refine fv_get (ci := 7) (v := .long fw) (C := R_O) (T := F_O) (N := 36) hx hb hts (by decide +kernel) hown hK hP 0 0 rfl rfl rfl 26 (by decide) (hts (.fieldLink R_O 144 "PartShelvesModel" "foundWorth" "J") (by decide +kernel)) (fun _ h9 => h9) rfl d_O_worth_8 ?_
    refine lv_goto (tgt := 17) hx hb d_O_worth_11 (by decide) ?_
    exact W.lret (v := fw) hx hb hr (fun t ht hW => ⟨_, rfl, (if_neg h0).symm, ht⟩) t_nil d_O_worth_17

abbrev b_O_cost : ByteArray := prog_9_method_33_code
def y_O_cost : MethodName := ⟨"PartShelvesModel", "cost", "()J"⟩
theorem d_O_cost_0 : decode b_O_cost 0 = .ok (.aload_n 0, 1) := by decide +kernel
theorem d_O_cost_1 : decode b_O_cost 1 = .ok (.getfield 174, 3) := by decide +kernel
theorem d_O_cost_4 : decode b_O_cost 4 = .ok (.ifCond .eq 10, 3) := by decide +kernel
theorem d_O_cost_7 : decode b_O_cost 7 = .ok (.aload_n 0, 1) := by decide +kernel
theorem d_O_cost_8 : decode b_O_cost 8 = .ok (.getfield 180, 3) := by decide +kernel
theorem d_O_cost_11 : decode b_O_cost 11 = .ok (.goto 6, 3) := by decide +kernel
theorem d_O_cost_14 : decode b_O_cost 14 = .ok (.ldc2_w 115, 3) := by decide +kernel
theorem d_O_cost_17 : decode b_O_cost 17 = .ok (.lreturn, 1) := by decide +kernel
def w_O_cost : List Cond := .code y_O_cost b_O_cost 1 (some .long) :: ([.fieldLink "PartShelvesModel" 174 "PartShelvesModel" "isPlanned" "Z", .fieldLink "PartShelvesModel" 180 "PartShelvesModel" "foundCost" "J", .constantLong "PartShelvesModel" 115 (-1)] ++ u_ws R_O F_O 36)
set_option maxHeartbeats 4000000 in
set_option maxRecDepth 100000 in
theorem c_O_cost (l : Launch) (D : va_G) (kC : Nat → ClassId) (ad : Nat → Nat) (td : Nat) (rn : Nat) (pn : Nat) (an : Nat) (jn : Nat) (tn : Nat) (bm : Int32) (fw : Int64) (gp : Nat) (ga : Nat) (bp : Int32) (fc : Int64) (fj : Nat) (rA : Nat → Nat) (rC : Nat → Nat) (ft : Nat → Int32) (kd : Nat → Nat) (aG : Nat → Nat) (sR : Nat → Nat) (sT : Nat → Nat) (wh : Nat → Nat) (dY : Nat → Nat) (pd : Nat → Nat) (cN : Nat → Nat) (mN : Nat → Nat) (sv : Nat → Int32) (nd : Nat → Nat) (wr : Nat → Nat) (tl : Nat → Nat) (lt : Nat → Int32) (lT : Nat → Nat) (lD : Nat → Nat) (gv : Nat → Int32) (gn : Nat → Int64) (od : Nat → Nat) (br : Nat → Nat) : Met l y_O_cost w_O_cost ({ frames := 0, cells := 0, slots := 0, locals := 0 } : Room) (gPr cls D (tyL kC) [.ref (ad 0)] (fl [(wO kC ad td rn pn an jn tn bm fw gp ga bp fc fj rA rC ft kd aG sR sT wh dY pd cN mN sv nd wr tl lt lT lD gv gn od br)])) (vp_Sl (fun r => r = (if bp = 0 then -1 else fc))) 0 0 (fun _ => False) := by
  refine Met.ofW (cc := b_O_cost) (maxL := 1) (ret := (some .long)) (by decide) rfl ?_
  intro p e s m args below meth c s₁ B hml hv
  obtain ⟨rfl, hP, hK⟩ := hv
  have hx := B.exec
  have hb := B.bytes
  have hr := B.returns
  have hts := atoms_spec (ws := w_O_cost) B.pre
  have hown : s.vm.findClass R_O = some m.cls := findClass_of_methodNamed B.named
  have hlocks := B.notSynchronized
  have hl := lv_entry ([.ref (ad 0)]) (n := 1) (Nat.le_of_ble_eq_true rfl)
  rw [lg_entry_eq]
  generalize (lg_sl ([.ref (ad 0)]) ++ List.replicate (1 - (lg_sl ([.ref (ad 0)])).length) Slot.unset).toArray = ls at hl ⊢
  have hl : lv_has ls 1 [(0, .ref (ad 0))] := hl
  refine lv_aload_n hx hb d_O_cost_0 rfl (lv_at hl 0 rfl) ?_
  refine fv_get (ci := 7) (v := .int bp) (C := R_O) (T := F_O) (N := 36) hx hb hts (by decide +kernel) hown hK hP 0 0 rfl rfl rfl 31 (by decide) (hts (.fieldLink R_O 174 "PartShelvesModel" "isPlanned" "Z") (by decide +kernel)) (fun _ h9 => h9) rfl d_O_cost_1 ?_
  refine lv_if_eq (tgt := 14) hx hb d_O_cost_4 (by decide) (fun h0 => ?_) (fun h0 => ?_)
  · refine lv_ldc2 (v := (-1)) hx hb hown (hts (.constantLong R_O 115 (-1)) (by decide +kernel)) d_O_cost_14 ?_
    exact W.lret (v := (-1)) hx hb hr (fun t ht hW => ⟨_, rfl, (if_pos h0).symm, ht⟩) t_nil d_O_cost_17
  · refine lv_aload_n hx hb d_O_cost_7 rfl (lv_at hl 0 rfl) ?_
    refine fv_get (ci := 7) (v := .long fc) (C := R_O) (T := F_O) (N := 36) hx hb hts (by decide +kernel) hown hK hP 0 0 rfl rfl rfl 32 (by decide) (hts (.fieldLink R_O 180 "PartShelvesModel" "foundCost" "J") (by decide +kernel)) (fun _ h9 => h9) rfl d_O_cost_8 ?_
    refine lv_goto (tgt := 17) hx hb d_O_cost_11 (by decide) ?_
    exact W.lret (v := fc) hx hb hr (fun t ht hW => ⟨_, rfl, (if_neg h0).symm, ht⟩) t_nil d_O_cost_17

abbrev b_O_serve : ByteArray := prog_9_method_26_code
def y_O_serve : MethodName := ⟨"PartShelvesModel", "serve", "(II)I"⟩
theorem d_O_serve_0 : decode b_O_serve 0 = .ok (.aload_n 0, 1) := by decide +kernel
theorem d_O_serve_1 : decode b_O_serve 1 = .ok (.iload_n 1, 1) := by decide +kernel
theorem d_O_serve_2 : decode b_O_serve 2 = .ok (.invokevirtual 123, 3) := by decide +kernel
theorem d_O_serve_5 : decode b_O_serve 5 = .ok (.ifCond .eq 33, 3) := by decide +kernel
theorem d_O_serve_8 : decode b_O_serve 8 = .ok (.iload_n 2, 1) := by decide +kernel
theorem d_O_serve_9 : decode b_O_serve 9 = .ok (.invokestatic 156, 3) := by decide +kernel
theorem d_O_serve_12 : decode b_O_serve 12 = .ok (.ifCond .eq 26, 3) := by decide +kernel
theorem d_O_serve_15 : decode b_O_serve 15 = .ok (.aload_n 0, 1) := by decide +kernel
theorem d_O_serve_16 : decode b_O_serve 16 = .ok (.getfield 69, 3) := by decide +kernel
theorem d_O_serve_19 : decode b_O_serve 19 = .ok (.iload_n 1, 1) := by decide +kernel
theorem d_O_serve_20 : decode b_O_serve 20 = .ok (.iaload, 1) := by decide +kernel
theorem d_O_serve_21 : decode b_O_serve 21 = .ok (.ifCond .lt 17, 3) := by decide +kernel
theorem d_O_serve_24 : decode b_O_serve 24 = .ok (.aload_n 0, 1) := by decide +kernel
theorem d_O_serve_25 : decode b_O_serve 25 = .ok (.aload_n 0, 1) := by decide +kernel
theorem d_O_serve_26 : decode b_O_serve 26 = .ok (.getfield 69, 3) := by decide +kernel
theorem d_O_serve_29 : decode b_O_serve 29 = .ok (.iload_n 1, 1) := by decide +kernel
theorem d_O_serve_30 : decode b_O_serve 30 = .ok (.iaload, 1) := by decide +kernel
theorem d_O_serve_31 : decode b_O_serve 31 = .ok (.iload_n 1, 1) := by decide +kernel
theorem d_O_serve_32 : decode b_O_serve 32 = .ok (.invokevirtual 126, 3) := by decide +kernel
theorem d_O_serve_35 : decode b_O_serve 35 = .ok (.ifCond .ne 5, 3) := by decide +kernel
theorem d_O_serve_38 : decode b_O_serve 38 = .ok (.iconst (-1), 1) := by decide +kernel
theorem d_O_serve_39 : decode b_O_serve 39 = .ok (.ireturn, 1) := by decide +kernel
theorem d_O_serve_40 : decode b_O_serve 40 = .ok (.aload_n 0, 1) := by decide +kernel
theorem d_O_serve_41 : decode b_O_serve 41 = .ok (.getfield 69, 3) := by decide +kernel
theorem d_O_serve_44 : decode b_O_serve 44 = .ok (.iload_n 1, 1) := by decide +kernel
theorem d_O_serve_45 : decode b_O_serve 45 = .ok (.iaload, 1) := by decide +kernel
theorem d_O_serve_46 : decode b_O_serve 46 = .ok (.istore_n 3, 1) := by decide +kernel
theorem d_O_serve_47 : decode b_O_serve 47 = .ok (.aload_n 0, 1) := by decide +kernel
theorem d_O_serve_48 : decode b_O_serve 48 = .ok (.getfield 30, 3) := by decide +kernel
theorem d_O_serve_51 : decode b_O_serve 51 = .ok (.iload_n 3, 1) := by decide +kernel
theorem d_O_serve_52 : decode b_O_serve 52 = .ok (.iconst 2, 1) := by decide +kernel
theorem d_O_serve_53 : decode b_O_serve 53 = .ok (.iastore, 1) := by decide +kernel
theorem d_O_serve_54 : decode b_O_serve 54 = .ok (.aload_n 0, 1) := by decide +kernel
theorem d_O_serve_55 : decode b_O_serve 55 = .ok (.getfield 33, 3) := by decide +kernel
theorem d_O_serve_58 : decode b_O_serve 58 = .ok (.iload_n 3, 1) := by decide +kernel
theorem d_O_serve_59 : decode b_O_serve 59 = .ok (.iload_n 2, 1) := by decide +kernel
theorem d_O_serve_60 : decode b_O_serve 60 = .ok (.iastore, 1) := by decide +kernel
theorem d_O_serve_61 : decode b_O_serve 61 = .ok (.aload_n 0, 1) := by decide +kernel
theorem d_O_serve_62 : decode b_O_serve 62 = .ok (.getfield 36, 3) := by decide +kernel
theorem d_O_serve_65 : decode b_O_serve 65 = .ok (.iload_n 3, 1) := by decide +kernel
theorem d_O_serve_66 : decode b_O_serve 66 = .ok (.aload_n 0, 1) := by decide +kernel
theorem d_O_serve_67 : decode b_O_serve 67 = .ok (.getfield 88, 3) := by decide +kernel
theorem d_O_serve_70 : decode b_O_serve 70 = .ok (.iastore, 1) := by decide +kernel
theorem d_O_serve_71 : decode b_O_serve 71 = .ok (.aload_n 0, 1) := by decide +kernel
theorem d_O_serve_72 : decode b_O_serve 72 = .ok (.getfield 48, 3) := by decide +kernel
theorem d_O_serve_75 : decode b_O_serve 75 = .ok (.iload_n 1, 1) := by decide +kernel
theorem d_O_serve_76 : decode b_O_serve 76 = .ok (.iconst 1, 1) := by decide +kernel
theorem d_O_serve_77 : decode b_O_serve 77 = .ok (.bastore, 1) := by decide +kernel
theorem d_O_serve_78 : decode b_O_serve 78 = .ok (.iload_n 3, 1) := by decide +kernel
theorem d_O_serve_79 : decode b_O_serve 79 = .ok (.ireturn, 1) := by decide +kernel
def w_O_serve : List Cond := .code y_O_serve b_O_serve 4 (some .int) :: ([.methodLink "PartShelvesModel" 123 ⟨"PartShelvesModel", "isOpen", "(I)Z"⟩, .instanceMethod ⟨"PartShelvesModel", "isOpen", "(I)Z"⟩, .selects "PartShelvesModel" ⟨"PartShelvesModel", "isOpen", "(I)Z"⟩ ⟨"PartShelvesModel", "isOpen", "(I)Z"⟩, .initialized "PartShelvesModel", .code ⟨"PartShelvesModel", "isOpen", "(I)Z"⟩ prog_9_method_7_code 2 (some .boolean), .fieldLink "PartShelvesModel" 85 "PartShelvesModel" "asks" "I", .fieldLink "PartShelvesModel" 48 "PartShelvesModel" "served" "[Z", .methodLink "PartShelvesModel" 156 ⟨"PartShelvesModel", "isPerson", "(I)Z"⟩, .static ⟨"PartShelvesModel", "isPerson", "(I)Z"⟩, .code ⟨"PartShelvesModel", "isPerson", "(I)Z"⟩ prog_9_method_5_code 1 (some .boolean), .fieldLink "PartShelvesModel" 69 "PartShelvesModel" "given" "[I", .methodLink "PartShelvesModel" 126 ⟨"PartShelvesModel", "isPair", "(II)Z"⟩, .instanceMethod ⟨"PartShelvesModel", "isPair", "(II)Z"⟩, .selects "PartShelvesModel" ⟨"PartShelvesModel", "isPair", "(II)Z"⟩ ⟨"PartShelvesModel", "isPair", "(II)Z"⟩, .code ⟨"PartShelvesModel", "isPair", "(II)Z"⟩ prog_9_method_18_code 4 (some .boolean), .methodLink "PartShelvesModel" 117 ⟨"PartShelvesModel", "stateOf", "(I)I"⟩, .instanceMethod ⟨"PartShelvesModel", "stateOf", "(I)I"⟩, .selects "PartShelvesModel" ⟨"PartShelvesModel", "stateOf", "(I)I"⟩ ⟨"PartShelvesModel", "stateOf", "(I)I"⟩, .code ⟨"PartShelvesModel", "stateOf", "(I)I"⟩ prog_9_method_14_code 2 (some .int), .fieldLink "PartShelvesModel" 30 "PartShelvesModel" "states" "[I", .fieldLink "PartShelvesModel" 36 "PartShelvesModel" "days" "[I", .fieldLink "PartShelvesModel" 88 "PartShelvesModel" "today" "I", .fieldLink "PartShelvesModel" 33 "PartShelvesModel" "whose" "[I", .fieldLink "PartShelvesModel" 17 "PartShelvesModel" "fits" "[Z", .fieldLink "PartShelvesModel" 21 "PartShelvesModel" "kinds" "[I", .fieldLink "PartShelvesModel" 39 "PartShelvesModel" "products" "[I", .fieldLink "PartShelvesModel" 42 "PartShelvesModel" "cents" "[J", .methodLink "PartShelvesModel" 111 ⟨"PartShelvesModel", "priceOf", "(I)J"⟩, .instanceMethod ⟨"PartShelvesModel", "priceOf", "(I)J"⟩, .selects "PartShelvesModel" ⟨"PartShelvesModel", "priceOf", "(I)J"⟩ ⟨"PartShelvesModel", "priceOf", "(I)J"⟩, .code ⟨"PartShelvesModel", "priceOf", "(I)J"⟩ prog_9_method_12_code 5 (some .long), .fieldLink "PartShelvesModel" 97 "PartShelvesModel" "rows" "I", .fieldLink "PartShelvesModel" 7 "PartShelvesModel" "rowAges" "[I", .fieldLink "PartShelvesModel" 24 "PartShelvesModel" "ages" "[I", .fieldLink "PartShelvesModel" 13 "PartShelvesModel" "rowCents" "[J"] ++ u_ws R_O F_O 36)
set_option maxRecDepth 20000 in
theorem g_O_serve_isOpen : GoodIn w_O_serve (wsV R_O 123 R_O y_O_isOpen w_O_isOpen) := goodIn_p _ [5] rfl (by decide +kernel)
set_option maxRecDepth 20000 in
theorem g_O_serve_isPerson : GoodIn w_O_serve (wsS R_O 156 y_O_isPerson w_O_isPerson) := goodIn_p _ [10] rfl (by decide +kernel)
set_option maxRecDepth 20000 in
theorem g_O_serve_isPair : GoodIn w_O_serve (wsV R_O 126 R_O y_O_isPair w_O_isPair) := goodIn_p _ [15, 19, 5, 31] rfl (by decide +kernel)
set_option maxHeartbeats 4000000 in
set_option maxRecDepth 100000 in
theorem c_O_serve (l : Launch) (D : va_G) (kC : Nat → ClassId) (ad : Nat → Nat) (td : Nat) (rn : Nat) (pn : Nat) (an : Nat) (jn : Nat) (tn : Nat) (bm : Int32) (fw : Int64) (gp : Nat) (ga : Nat) (bp : Int32) (fc : Int64) (fj : Nat) (rA : Nat → Nat) (rC : Nat → Nat) (ft : Nat → Int32) (kd : Nat → Nat) (aG : Nat → Nat) (sR : Nat → Nat) (sT : Nat → Nat) (wh : Nat → Nat) (dY : Nat → Nat) (pd : Nat → Nat) (cN : Nat → Nat) (mN : Nat → Nat) (sv : Nat → Int32) (nd : Nat → Nat) (wr : Nat → Nat) (tl : Nat → Nat) (lt : Nat → Int32) (lT : Nat → Nat) (lD : Nat → Nat) (gv : Nat → Int32) (gn : Nat → Int64) (od : Nat → Nat) (br : Nat → Nat) (x : Int32) (y : Int32) (sz : Nat) (han : an ≤ 8) (hgv : ∀ j, gv j = -1 ∨ ∃ k, k < 8 ∧ gv j = nI k) (hsT : ∀ j, sT j ≤ 3) (hdY : ∀ j, dY j ≤ 100000) (htd : td ≤ 100000) (hrn : rn ≤ 6) (hrA : ∀ j, rA j ≤ 1000) (haG : ∀ j, aG j ≤ 1000) (hkd : ∀ j, kd j < 6) (hpd : ∀ j, pd j < 6) (hcN : ∀ j, cN j ≤ 1000000) (hrC : ∀ j, rC j ≤ 100000) (hwh : ∀ j, wh j < 10) : Met l y_O_serve w_O_serve ({ frames := 2, cells := 0, slots := 0, locals := 47 } : Room) (gPre cls D (tyL kC) [.ref (ad 0), .int x, .int y] (fl [(wO kC ad td rn pn an jn tn bm fw gp ga bp fc fj rA rC ft kd aG sR sT wh dY pd cN mN sv nd wr tl lt lT lD gv gn od br)]) sz) (gQi cls D (tyL kC) (fl [(wO kC ad td rn pn an jn tn bm fw gp ga bp fc fj rA rC ft kd aG sR sT wh dY pd cN mN sv nd wr tl lt lT lD gv gn od br)]) sz (if (opn sv an x ∧ inR y 10 ∧ ¬ gv (nOf x) < 0 ∧ prsO td rn an rA rC ft kd aG sT wh dY pd cN sv (nOf (gv (nOf x))) (nOf x)) then gv (nOf x) else -1) (fl [(wO kC ad td rn pn an jn tn bm fw gp ga bp fc fj rA rC ft kd aG sR (if (opn sv an x ∧ inR y 10 ∧ ¬ gv (nOf x) < 0 ∧ prsO td rn an rA rC ft kd aG sT wh dY pd cN sv (nOf (gv (nOf x))) (nOf x)) then updN sT (nOf (gv (nOf x))) 2 else sT) (if (opn sv an x ∧ inR y 10 ∧ ¬ gv (nOf x) < 0 ∧ prsO td rn an rA rC ft kd aG sT wh dY pd cN sv (nOf (gv (nOf x))) (nOf x)) then updN wh (nOf (gv (nOf x))) (nOf y) else wh) (if (opn sv an x ∧ inR y 10 ∧ ¬ gv (nOf x) < 0 ∧ prsO td rn an rA rC ft kd aG sT wh dY pd cN sv (nOf (gv (nOf x))) (nOf x)) then updN dY (nOf (gv (nOf x))) td else dY) pd cN mN (if (opn sv an x ∧ inR y 10 ∧ ¬ gv (nOf x) < 0 ∧ prsO td rn an rA rC ft kd aG sT wh dY pd cN sv (nOf (gv (nOf x))) (nOf x)) then upd sv (nOf x) (nI 1) else sv) nd wr tl lt lT lD gv gn od br)])) 0 0 (va_A (fl [(wO kC ad td rn pn an jn tn bm fw gp ga bp fc fj rA rC ft kd aG sR sT wh dY pd cN mN sv nd wr tl lt lT lD gv gn od br)]) sz) := by
  refine Met.ofW (cc := b_O_serve) (maxL := 4) (ret := (some .int)) (by decide) rfl ?_
  intro p e s m args below meth c s₁ B hml hv
  obtain ⟨rfl, hsz, hP, hK, hD0⟩ := hv
  have hx := B.exec
  have hb := B.bytes
  have hr := B.returns
  have hts := atoms_spec (ws := w_O_serve) B.pre
  have hown : s.vm.findClass R_O = some m.cls := findClass_of_methodNamed B.named
  have hlocks := B.notSynchronized
  subst hsz
  obtain ⟨A, hAe⟩ : ∃ A : Nat → Prop, A = va_A (fl [(wO kC ad td rn pn an jn tn bm fw gp ga bp fc fj rA rC ft kd aG sR sT wh dY pd cN mN sv nd wr tl lt lT lD gv gn od br)]) s.heap.size := ⟨_, rfl⟩
  have hD : va_D A (fl [(wO kC ad td rn pn an jn tn bm fw gp ga bp fc fj rA rC ft kd aG sR sT wh dY pd cN mN sv nd wr tl lt lT lD gv gn od br)]) := by rw [hAe]; exact hD0.self
  have hA : ∀ q : Nat, s.heap.size ≤ q → A q := fun q h => by rw [hAe]; exact Or.inr h
  have hS : va_S A s.heap s.heap [] := va_S.rf
  have hl := lv_entry ([.ref (ad 0), .int x, .int y]) (n := 4) (Nat.le_of_ble_eq_true rfl)
  rw [lg_entry_eq]
  generalize (lg_sl ([.ref (ad 0), .int x, .int y]) ++ List.replicate (4 - (lg_sl ([.ref (ad 0), .int x, .int y])).length) Slot.unset).toArray = ls at hl ⊢
  have hl : lv_has ls 4 [(0, .ref (ad 0)), (1, .int x), (2, .int y)] := hl
  refine lv_aload_n hx hb d_O_serve_0 rfl (lv_at hl 0 rfl) ?_
  refine lv_iload_n hx hb d_O_serve_1 rfl (lv_at hl 1 rfl) ?_
  refine r_calli (W.runV (As := [.int x]) (rest := []) ⟨hx, hb, hml, hown, hts⟩ (c_O_isOpen l D kC ad td rn pn an jn tn bm fw gp ga bp fc fj rA rC ft kd aG sR sT wh dY pd cN mN sv nd wr tl lt lT lD gv gn od br x (han)) (cwV 1 hts g_O_serve_isOpen rfl rfl rfl (by decide +kernel) ⟨Nat.le_of_ble_eq_true rfl, Nat.le_of_ble_eq_true rfl⟩) (r_preV (f_recv (ci := 7) (q0 := 0) hK hP 0 rfl rfl rfl) hK hP) rfl rfl hl.1 rfl (lv_room (Nat.le_of_ble_eq_true rfl)) d_O_serve_2 ⟨Nat.le_of_ble_eq_true rfl, Nat.le_of_ble_eq_true rfl⟩) ?_
  refine lv_if_eq (tgt := 38) hx hb d_O_serve_5 (by decide) (fun h1 => ?_) (fun h1 => ?_)
  · have hC : ¬ (opn sv an x ∧ inR y 10 ∧ ¬ gv (nOf x) < 0 ∧ prsO td rn an rA rC ft kd aG sT wh dY pd cN sv (nOf (gv (nOf x))) (nOf x)) := fun q => by first | (have q4 := q.2.2.2; rw [nOf_nI (by omega), ek, nOf_nI (by omega)] at q4; exact bI_0.mp h4 q4) | (have q3 := q.2.2.1; rw [nOf_nI (by omega)] at q3; exact q3 h3) | exact bI_0.mp h2 q.2.1 | exact bI_0.mp h1 q.1
    refine lv_iconst (v := (-1)) hx hb d_O_serve_38 (by decide) ?_
    have ew1 : sT = (if (opn sv an x ∧ inR y 10 ∧ ¬ gv (nOf x) < 0 ∧ prsO td rn an rA rC ft kd aG sT wh dY pd cN sv (nOf (gv (nOf x))) (nOf x)) then updN sT (nOf (gv (nOf x))) 2 else sT) := (if_neg hC).symm
    have hP : va_P D cls (fl [(wO kC ad td rn pn an jn tn bm fw gp ga bp fc fj rA rC ft kd aG sR (if (opn sv an x ∧ inR y 10 ∧ ¬ gv (nOf x) < 0 ∧ prsO td rn an rA rC ft kd aG sT wh dY pd cN sv (nOf (gv (nOf x))) (nOf x)) then updN sT (nOf (gv (nOf x))) 2 else sT) wh dY pd cN mN sv nd wr tl lt lT lD gv gn od br)]) s.heap := by rw [← ew1]; exact hP
    have hD : va_D A (fl [(wO kC ad td rn pn an jn tn bm fw gp ga bp fc fj rA rC ft kd aG sR (if (opn sv an x ∧ inR y 10 ∧ ¬ gv (nOf x) < 0 ∧ prsO td rn an rA rC ft kd aG sT wh dY pd cN sv (nOf (gv (nOf x))) (nOf x)) then updN sT (nOf (gv (nOf x))) 2 else sT) wh dY pd cN mN sv nd wr tl lt lT lD gv gn od br)]) := by rw [← ew1]; exact hD
    have ew2 : wh = (if (opn sv an x ∧ inR y 10 ∧ ¬ gv (nOf x) < 0 ∧ prsO td rn an rA rC ft kd aG sT wh dY pd cN sv (nOf (gv (nOf x))) (nOf x)) then updN wh (nOf (gv (nOf x))) (nOf y) else wh) := (if_neg hC).symm
    have hP : va_P D cls (fl [(wO kC ad td rn pn an jn tn bm fw gp ga bp fc fj rA rC ft kd aG sR (if (opn sv an x ∧ inR y 10 ∧ ¬ gv (nOf x) < 0 ∧ prsO td rn an rA rC ft kd aG sT wh dY pd cN sv (nOf (gv (nOf x))) (nOf x)) then updN sT (nOf (gv (nOf x))) 2 else sT) (if (opn sv an x ∧ inR y 10 ∧ ¬ gv (nOf x) < 0 ∧ prsO td rn an rA rC ft kd aG sT wh dY pd cN sv (nOf (gv (nOf x))) (nOf x)) then updN wh (nOf (gv (nOf x))) (nOf y) else wh) dY pd cN mN sv nd wr tl lt lT lD gv gn od br)]) s.heap := by rw [← ew2]; exact hP
    have hD : va_D A (fl [(wO kC ad td rn pn an jn tn bm fw gp ga bp fc fj rA rC ft kd aG sR (if (opn sv an x ∧ inR y 10 ∧ ¬ gv (nOf x) < 0 ∧ prsO td rn an rA rC ft kd aG sT wh dY pd cN sv (nOf (gv (nOf x))) (nOf x)) then updN sT (nOf (gv (nOf x))) 2 else sT) (if (opn sv an x ∧ inR y 10 ∧ ¬ gv (nOf x) < 0 ∧ prsO td rn an rA rC ft kd aG sT wh dY pd cN sv (nOf (gv (nOf x))) (nOf x)) then updN wh (nOf (gv (nOf x))) (nOf y) else wh) dY pd cN mN sv nd wr tl lt lT lD gv gn od br)]) := by rw [← ew2]; exact hD
    have ew3 : dY = (if (opn sv an x ∧ inR y 10 ∧ ¬ gv (nOf x) < 0 ∧ prsO td rn an rA rC ft kd aG sT wh dY pd cN sv (nOf (gv (nOf x))) (nOf x)) then updN dY (nOf (gv (nOf x))) td else dY) := (if_neg hC).symm
    have hP : va_P D cls (fl [(wO kC ad td rn pn an jn tn bm fw gp ga bp fc fj rA rC ft kd aG sR (if (opn sv an x ∧ inR y 10 ∧ ¬ gv (nOf x) < 0 ∧ prsO td rn an rA rC ft kd aG sT wh dY pd cN sv (nOf (gv (nOf x))) (nOf x)) then updN sT (nOf (gv (nOf x))) 2 else sT) (if (opn sv an x ∧ inR y 10 ∧ ¬ gv (nOf x) < 0 ∧ prsO td rn an rA rC ft kd aG sT wh dY pd cN sv (nOf (gv (nOf x))) (nOf x)) then updN wh (nOf (gv (nOf x))) (nOf y) else wh) (if (opn sv an x ∧ inR y 10 ∧ ¬ gv (nOf x) < 0 ∧ prsO td rn an rA rC ft kd aG sT wh dY pd cN sv (nOf (gv (nOf x))) (nOf x)) then updN dY (nOf (gv (nOf x))) td else dY) pd cN mN sv nd wr tl lt lT lD gv gn od br)]) s.heap := by rw [← ew3]; exact hP
    have hD : va_D A (fl [(wO kC ad td rn pn an jn tn bm fw gp ga bp fc fj rA rC ft kd aG sR (if (opn sv an x ∧ inR y 10 ∧ ¬ gv (nOf x) < 0 ∧ prsO td rn an rA rC ft kd aG sT wh dY pd cN sv (nOf (gv (nOf x))) (nOf x)) then updN sT (nOf (gv (nOf x))) 2 else sT) (if (opn sv an x ∧ inR y 10 ∧ ¬ gv (nOf x) < 0 ∧ prsO td rn an rA rC ft kd aG sT wh dY pd cN sv (nOf (gv (nOf x))) (nOf x)) then updN wh (nOf (gv (nOf x))) (nOf y) else wh) (if (opn sv an x ∧ inR y 10 ∧ ¬ gv (nOf x) < 0 ∧ prsO td rn an rA rC ft kd aG sT wh dY pd cN sv (nOf (gv (nOf x))) (nOf x)) then updN dY (nOf (gv (nOf x))) td else dY) pd cN mN sv nd wr tl lt lT lD gv gn od br)]) := by rw [← ew3]; exact hD
    have ew4 : sv = (if (opn sv an x ∧ inR y 10 ∧ ¬ gv (nOf x) < 0 ∧ prsO td rn an rA rC ft kd aG sT wh dY pd cN sv (nOf (gv (nOf x))) (nOf x)) then upd sv (nOf x) (nI 1) else sv) := (if_neg hC).symm
    have hP : va_P D cls (fl [(wO kC ad td rn pn an jn tn bm fw gp ga bp fc fj rA rC ft kd aG sR (if (opn sv an x ∧ inR y 10 ∧ ¬ gv (nOf x) < 0 ∧ prsO td rn an rA rC ft kd aG sT wh dY pd cN sv (nOf (gv (nOf x))) (nOf x)) then updN sT (nOf (gv (nOf x))) 2 else sT) (if (opn sv an x ∧ inR y 10 ∧ ¬ gv (nOf x) < 0 ∧ prsO td rn an rA rC ft kd aG sT wh dY pd cN sv (nOf (gv (nOf x))) (nOf x)) then updN wh (nOf (gv (nOf x))) (nOf y) else wh) (if (opn sv an x ∧ inR y 10 ∧ ¬ gv (nOf x) < 0 ∧ prsO td rn an rA rC ft kd aG sT wh dY pd cN sv (nOf (gv (nOf x))) (nOf x)) then updN dY (nOf (gv (nOf x))) td else dY) pd cN mN (if (opn sv an x ∧ inR y 10 ∧ ¬ gv (nOf x) < 0 ∧ prsO td rn an rA rC ft kd aG sT wh dY pd cN sv (nOf (gv (nOf x))) (nOf x)) then upd sv (nOf x) (nI 1) else sv) nd wr tl lt lT lD gv gn od br)]) s.heap := by rw [← ew4]; exact hP
    have hD : va_D A (fl [(wO kC ad td rn pn an jn tn bm fw gp ga bp fc fj rA rC ft kd aG sR (if (opn sv an x ∧ inR y 10 ∧ ¬ gv (nOf x) < 0 ∧ prsO td rn an rA rC ft kd aG sT wh dY pd cN sv (nOf (gv (nOf x))) (nOf x)) then updN sT (nOf (gv (nOf x))) 2 else sT) (if (opn sv an x ∧ inR y 10 ∧ ¬ gv (nOf x) < 0 ∧ prsO td rn an rA rC ft kd aG sT wh dY pd cN sv (nOf (gv (nOf x))) (nOf x)) then updN wh (nOf (gv (nOf x))) (nOf y) else wh) (if (opn sv an x ∧ inR y 10 ∧ ¬ gv (nOf x) < 0 ∧ prsO td rn an rA rC ft kd aG sT wh dY pd cN sv (nOf (gv (nOf x))) (nOf x)) then updN dY (nOf (gv (nOf x))) td else dY) pd cN mN (if (opn sv an x ∧ inR y 10 ∧ ¬ gv (nOf x) < 0 ∧ prsO td rn an rA rC ft kd aG sT wh dY pd cN sv (nOf (gv (nOf x))) (nOf x)) then upd sv (nOf x) (nI 1) else sv) nd wr tl lt lT lD gv gn od br)]) := by rw [← ew4]; exact hD
    exact W.iret (v := (-1)) hx hb hr (fun t ht hW => by subst hAe; exact ⟨⟨(-1), (), rfl, (if_neg hC).symm, by rw [ht]; exact hP, va_K.moved hW.alike hK, hD⟩, hS.F ht⟩) (by subst hAe; exact hS.2.2) d_O_serve_39
  · have h1 := bI_n0.mp h1
    obtain ⟨j, hj, rfl⟩ := inR_n (by omega) h1.1
    refine lv_iload_n hx hb d_O_serve_8 rfl (lv_at hl 2 rfl) ?_
    refine r_calli (W.runS (As := [.int y]) (rest := []) ⟨hx, hb, hml, hown, hts⟩ (c_O_isPerson l y) (cwS 1 hts g_O_serve_isPerson rfl rfl rfl (by decide +kernel) ⟨Nat.le_of_ble_eq_true rfl, Nat.le_of_ble_eq_true rfl⟩) p0_preS rfl rfl hl.1 rfl (lv_room (Nat.le_of_ble_eq_true rfl)) d_O_serve_9 ⟨Nat.le_of_ble_eq_true rfl, Nat.le_of_ble_eq_true rfl⟩) ?_
    refine lv_if_eq (tgt := 38) hx hb d_O_serve_12 (by decide) (fun h2 => ?_) (fun h2 => ?_)
    · have hC : ¬ (opn sv an (nI j) ∧ inR y 10 ∧ ¬ gv (nOf (nI j)) < 0 ∧ prsO td rn an rA rC ft kd aG sT wh dY pd cN sv (nOf (gv (nOf (nI j)))) (nOf (nI j))) := fun q => by first | (have q4 := q.2.2.2; rw [nOf_nI (by omega), ek, nOf_nI (by omega)] at q4; exact bI_0.mp h4 q4) | (have q3 := q.2.2.1; rw [nOf_nI (by omega)] at q3; exact q3 h3) | exact bI_0.mp h2 q.2.1 | exact bI_0.mp h1 q.1
      refine lv_iconst (v := (-1)) hx hb d_O_serve_38 (by decide) ?_
      have ew5 : sT = (if (opn sv an (nI j) ∧ inR y 10 ∧ ¬ gv (nOf (nI j)) < 0 ∧ prsO td rn an rA rC ft kd aG sT wh dY pd cN sv (nOf (gv (nOf (nI j)))) (nOf (nI j))) then updN sT (nOf (gv (nOf (nI j)))) 2 else sT) := (if_neg hC).symm
      have hP : va_P D cls (fl [(wO kC ad td rn pn an jn tn bm fw gp ga bp fc fj rA rC ft kd aG sR (if (opn sv an (nI j) ∧ inR y 10 ∧ ¬ gv (nOf (nI j)) < 0 ∧ prsO td rn an rA rC ft kd aG sT wh dY pd cN sv (nOf (gv (nOf (nI j)))) (nOf (nI j))) then updN sT (nOf (gv (nOf (nI j)))) 2 else sT) wh dY pd cN mN sv nd wr tl lt lT lD gv gn od br)]) s.heap := by rw [← ew5]; exact hP
      have hD : va_D A (fl [(wO kC ad td rn pn an jn tn bm fw gp ga bp fc fj rA rC ft kd aG sR (if (opn sv an (nI j) ∧ inR y 10 ∧ ¬ gv (nOf (nI j)) < 0 ∧ prsO td rn an rA rC ft kd aG sT wh dY pd cN sv (nOf (gv (nOf (nI j)))) (nOf (nI j))) then updN sT (nOf (gv (nOf (nI j)))) 2 else sT) wh dY pd cN mN sv nd wr tl lt lT lD gv gn od br)]) := by rw [← ew5]; exact hD
      have ew6 : wh = (if (opn sv an (nI j) ∧ inR y 10 ∧ ¬ gv (nOf (nI j)) < 0 ∧ prsO td rn an rA rC ft kd aG sT wh dY pd cN sv (nOf (gv (nOf (nI j)))) (nOf (nI j))) then updN wh (nOf (gv (nOf (nI j)))) (nOf y) else wh) := (if_neg hC).symm
      have hP : va_P D cls (fl [(wO kC ad td rn pn an jn tn bm fw gp ga bp fc fj rA rC ft kd aG sR (if (opn sv an (nI j) ∧ inR y 10 ∧ ¬ gv (nOf (nI j)) < 0 ∧ prsO td rn an rA rC ft kd aG sT wh dY pd cN sv (nOf (gv (nOf (nI j)))) (nOf (nI j))) then updN sT (nOf (gv (nOf (nI j)))) 2 else sT) (if (opn sv an (nI j) ∧ inR y 10 ∧ ¬ gv (nOf (nI j)) < 0 ∧ prsO td rn an rA rC ft kd aG sT wh dY pd cN sv (nOf (gv (nOf (nI j)))) (nOf (nI j))) then updN wh (nOf (gv (nOf (nI j)))) (nOf y) else wh) dY pd cN mN sv nd wr tl lt lT lD gv gn od br)]) s.heap := by rw [← ew6]; exact hP
      have hD : va_D A (fl [(wO kC ad td rn pn an jn tn bm fw gp ga bp fc fj rA rC ft kd aG sR (if (opn sv an (nI j) ∧ inR y 10 ∧ ¬ gv (nOf (nI j)) < 0 ∧ prsO td rn an rA rC ft kd aG sT wh dY pd cN sv (nOf (gv (nOf (nI j)))) (nOf (nI j))) then updN sT (nOf (gv (nOf (nI j)))) 2 else sT) (if (opn sv an (nI j) ∧ inR y 10 ∧ ¬ gv (nOf (nI j)) < 0 ∧ prsO td rn an rA rC ft kd aG sT wh dY pd cN sv (nOf (gv (nOf (nI j)))) (nOf (nI j))) then updN wh (nOf (gv (nOf (nI j)))) (nOf y) else wh) dY pd cN mN sv nd wr tl lt lT lD gv gn od br)]) := by rw [← ew6]; exact hD
      have ew7 : dY = (if (opn sv an (nI j) ∧ inR y 10 ∧ ¬ gv (nOf (nI j)) < 0 ∧ prsO td rn an rA rC ft kd aG sT wh dY pd cN sv (nOf (gv (nOf (nI j)))) (nOf (nI j))) then updN dY (nOf (gv (nOf (nI j)))) td else dY) := (if_neg hC).symm
      have hP : va_P D cls (fl [(wO kC ad td rn pn an jn tn bm fw gp ga bp fc fj rA rC ft kd aG sR (if (opn sv an (nI j) ∧ inR y 10 ∧ ¬ gv (nOf (nI j)) < 0 ∧ prsO td rn an rA rC ft kd aG sT wh dY pd cN sv (nOf (gv (nOf (nI j)))) (nOf (nI j))) then updN sT (nOf (gv (nOf (nI j)))) 2 else sT) (if (opn sv an (nI j) ∧ inR y 10 ∧ ¬ gv (nOf (nI j)) < 0 ∧ prsO td rn an rA rC ft kd aG sT wh dY pd cN sv (nOf (gv (nOf (nI j)))) (nOf (nI j))) then updN wh (nOf (gv (nOf (nI j)))) (nOf y) else wh) (if (opn sv an (nI j) ∧ inR y 10 ∧ ¬ gv (nOf (nI j)) < 0 ∧ prsO td rn an rA rC ft kd aG sT wh dY pd cN sv (nOf (gv (nOf (nI j)))) (nOf (nI j))) then updN dY (nOf (gv (nOf (nI j)))) td else dY) pd cN mN sv nd wr tl lt lT lD gv gn od br)]) s.heap := by rw [← ew7]; exact hP
      have hD : va_D A (fl [(wO kC ad td rn pn an jn tn bm fw gp ga bp fc fj rA rC ft kd aG sR (if (opn sv an (nI j) ∧ inR y 10 ∧ ¬ gv (nOf (nI j)) < 0 ∧ prsO td rn an rA rC ft kd aG sT wh dY pd cN sv (nOf (gv (nOf (nI j)))) (nOf (nI j))) then updN sT (nOf (gv (nOf (nI j)))) 2 else sT) (if (opn sv an (nI j) ∧ inR y 10 ∧ ¬ gv (nOf (nI j)) < 0 ∧ prsO td rn an rA rC ft kd aG sT wh dY pd cN sv (nOf (gv (nOf (nI j)))) (nOf (nI j))) then updN wh (nOf (gv (nOf (nI j)))) (nOf y) else wh) (if (opn sv an (nI j) ∧ inR y 10 ∧ ¬ gv (nOf (nI j)) < 0 ∧ prsO td rn an rA rC ft kd aG sT wh dY pd cN sv (nOf (gv (nOf (nI j)))) (nOf (nI j))) then updN dY (nOf (gv (nOf (nI j)))) td else dY) pd cN mN sv nd wr tl lt lT lD gv gn od br)]) := by rw [← ew7]; exact hD
      have ew8 : sv = (if (opn sv an (nI j) ∧ inR y 10 ∧ ¬ gv (nOf (nI j)) < 0 ∧ prsO td rn an rA rC ft kd aG sT wh dY pd cN sv (nOf (gv (nOf (nI j)))) (nOf (nI j))) then upd sv (nOf (nI j)) (nI 1) else sv) := (if_neg hC).symm
      have hP : va_P D cls (fl [(wO kC ad td rn pn an jn tn bm fw gp ga bp fc fj rA rC ft kd aG sR (if (opn sv an (nI j) ∧ inR y 10 ∧ ¬ gv (nOf (nI j)) < 0 ∧ prsO td rn an rA rC ft kd aG sT wh dY pd cN sv (nOf (gv (nOf (nI j)))) (nOf (nI j))) then updN sT (nOf (gv (nOf (nI j)))) 2 else sT) (if (opn sv an (nI j) ∧ inR y 10 ∧ ¬ gv (nOf (nI j)) < 0 ∧ prsO td rn an rA rC ft kd aG sT wh dY pd cN sv (nOf (gv (nOf (nI j)))) (nOf (nI j))) then updN wh (nOf (gv (nOf (nI j)))) (nOf y) else wh) (if (opn sv an (nI j) ∧ inR y 10 ∧ ¬ gv (nOf (nI j)) < 0 ∧ prsO td rn an rA rC ft kd aG sT wh dY pd cN sv (nOf (gv (nOf (nI j)))) (nOf (nI j))) then updN dY (nOf (gv (nOf (nI j)))) td else dY) pd cN mN (if (opn sv an (nI j) ∧ inR y 10 ∧ ¬ gv (nOf (nI j)) < 0 ∧ prsO td rn an rA rC ft kd aG sT wh dY pd cN sv (nOf (gv (nOf (nI j)))) (nOf (nI j))) then upd sv (nOf (nI j)) (nI 1) else sv) nd wr tl lt lT lD gv gn od br)]) s.heap := by rw [← ew8]; exact hP
      have hD : va_D A (fl [(wO kC ad td rn pn an jn tn bm fw gp ga bp fc fj rA rC ft kd aG sR (if (opn sv an (nI j) ∧ inR y 10 ∧ ¬ gv (nOf (nI j)) < 0 ∧ prsO td rn an rA rC ft kd aG sT wh dY pd cN sv (nOf (gv (nOf (nI j)))) (nOf (nI j))) then updN sT (nOf (gv (nOf (nI j)))) 2 else sT) (if (opn sv an (nI j) ∧ inR y 10 ∧ ¬ gv (nOf (nI j)) < 0 ∧ prsO td rn an rA rC ft kd aG sT wh dY pd cN sv (nOf (gv (nOf (nI j)))) (nOf (nI j))) then updN wh (nOf (gv (nOf (nI j)))) (nOf y) else wh) (if (opn sv an (nI j) ∧ inR y 10 ∧ ¬ gv (nOf (nI j)) < 0 ∧ prsO td rn an rA rC ft kd aG sT wh dY pd cN sv (nOf (gv (nOf (nI j)))) (nOf (nI j))) then updN dY (nOf (gv (nOf (nI j)))) td else dY) pd cN mN (if (opn sv an (nI j) ∧ inR y 10 ∧ ¬ gv (nOf (nI j)) < 0 ∧ prsO td rn an rA rC ft kd aG sT wh dY pd cN sv (nOf (gv (nOf (nI j)))) (nOf (nI j))) then upd sv (nOf (nI j)) (nI 1) else sv) nd wr tl lt lT lD gv gn od br)]) := by rw [← ew8]; exact hD
      exact W.iret (v := (-1)) hx hb hr (fun t ht hW => by subst hAe; exact ⟨⟨(-1), (), rfl, (if_neg hC).symm, by rw [ht]; exact hP, va_K.moved hW.alike hK, hD⟩, hS.F ht⟩) (by subst hAe; exact hS.2.2) d_O_serve_39
    · have h2 := bI_n0.mp h2
      refine lv_aload_n hx hb d_O_serve_15 rfl (lv_at hl 0 rfl) ?_
      refine fv_get (ci := 7) (v := .ref (ad 20)) (C := R_O) (T := F_O) (N := 36) hx hb hts (by decide +kernel) hown hK hP 0 0 rfl rfl rfl 27 (by decide) (hts (.fieldLink R_O 69 "PartShelvesModel" "given" "[I") (by decide +kernel)) (fun _ h9 => h9) rfl d_O_serve_16 ?_
      refine lv_iload_n hx hb d_O_serve_19 rfl (lv_at hl 1 rfl) ?_
      refine fa_iald hx hb hK hP 0 20 0 rfl rfl rfl (by omega) (by decide) d_O_serve_20 ?_
      refine lv_if_lt (tgt := 38) hx hb d_O_serve_21 (by decide) (fun h3 => ?_) (fun h3 => ?_)
      · have hC : ¬ (opn sv an (nI j) ∧ inR y 10 ∧ ¬ gv (nOf (nI j)) < 0 ∧ prsO td rn an rA rC ft kd aG sT wh dY pd cN sv (nOf (gv (nOf (nI j)))) (nOf (nI j))) := fun q => by first | (have q4 := q.2.2.2; rw [nOf_nI (by omega), ek, nOf_nI (by omega)] at q4; exact bI_0.mp h4 q4) | (have q3 := q.2.2.1; rw [nOf_nI (by omega)] at q3; exact q3 h3) | exact bI_0.mp h2 q.2.1 | exact bI_0.mp h1 q.1
        refine lv_iconst (v := (-1)) hx hb d_O_serve_38 (by decide) ?_
        have ew9 : sT = (if (opn sv an (nI j) ∧ inR y 10 ∧ ¬ gv (nOf (nI j)) < 0 ∧ prsO td rn an rA rC ft kd aG sT wh dY pd cN sv (nOf (gv (nOf (nI j)))) (nOf (nI j))) then updN sT (nOf (gv (nOf (nI j)))) 2 else sT) := (if_neg hC).symm
        have hP : va_P D cls (fl [(wO kC ad td rn pn an jn tn bm fw gp ga bp fc fj rA rC ft kd aG sR (if (opn sv an (nI j) ∧ inR y 10 ∧ ¬ gv (nOf (nI j)) < 0 ∧ prsO td rn an rA rC ft kd aG sT wh dY pd cN sv (nOf (gv (nOf (nI j)))) (nOf (nI j))) then updN sT (nOf (gv (nOf (nI j)))) 2 else sT) wh dY pd cN mN sv nd wr tl lt lT lD gv gn od br)]) s.heap := by rw [← ew9]; exact hP
        have hD : va_D A (fl [(wO kC ad td rn pn an jn tn bm fw gp ga bp fc fj rA rC ft kd aG sR (if (opn sv an (nI j) ∧ inR y 10 ∧ ¬ gv (nOf (nI j)) < 0 ∧ prsO td rn an rA rC ft kd aG sT wh dY pd cN sv (nOf (gv (nOf (nI j)))) (nOf (nI j))) then updN sT (nOf (gv (nOf (nI j)))) 2 else sT) wh dY pd cN mN sv nd wr tl lt lT lD gv gn od br)]) := by rw [← ew9]; exact hD
        have ew10 : wh = (if (opn sv an (nI j) ∧ inR y 10 ∧ ¬ gv (nOf (nI j)) < 0 ∧ prsO td rn an rA rC ft kd aG sT wh dY pd cN sv (nOf (gv (nOf (nI j)))) (nOf (nI j))) then updN wh (nOf (gv (nOf (nI j)))) (nOf y) else wh) := (if_neg hC).symm
        have hP : va_P D cls (fl [(wO kC ad td rn pn an jn tn bm fw gp ga bp fc fj rA rC ft kd aG sR (if (opn sv an (nI j) ∧ inR y 10 ∧ ¬ gv (nOf (nI j)) < 0 ∧ prsO td rn an rA rC ft kd aG sT wh dY pd cN sv (nOf (gv (nOf (nI j)))) (nOf (nI j))) then updN sT (nOf (gv (nOf (nI j)))) 2 else sT) (if (opn sv an (nI j) ∧ inR y 10 ∧ ¬ gv (nOf (nI j)) < 0 ∧ prsO td rn an rA rC ft kd aG sT wh dY pd cN sv (nOf (gv (nOf (nI j)))) (nOf (nI j))) then updN wh (nOf (gv (nOf (nI j)))) (nOf y) else wh) dY pd cN mN sv nd wr tl lt lT lD gv gn od br)]) s.heap := by rw [← ew10]; exact hP
        have hD : va_D A (fl [(wO kC ad td rn pn an jn tn bm fw gp ga bp fc fj rA rC ft kd aG sR (if (opn sv an (nI j) ∧ inR y 10 ∧ ¬ gv (nOf (nI j)) < 0 ∧ prsO td rn an rA rC ft kd aG sT wh dY pd cN sv (nOf (gv (nOf (nI j)))) (nOf (nI j))) then updN sT (nOf (gv (nOf (nI j)))) 2 else sT) (if (opn sv an (nI j) ∧ inR y 10 ∧ ¬ gv (nOf (nI j)) < 0 ∧ prsO td rn an rA rC ft kd aG sT wh dY pd cN sv (nOf (gv (nOf (nI j)))) (nOf (nI j))) then updN wh (nOf (gv (nOf (nI j)))) (nOf y) else wh) dY pd cN mN sv nd wr tl lt lT lD gv gn od br)]) := by rw [← ew10]; exact hD
        have ew11 : dY = (if (opn sv an (nI j) ∧ inR y 10 ∧ ¬ gv (nOf (nI j)) < 0 ∧ prsO td rn an rA rC ft kd aG sT wh dY pd cN sv (nOf (gv (nOf (nI j)))) (nOf (nI j))) then updN dY (nOf (gv (nOf (nI j)))) td else dY) := (if_neg hC).symm
        have hP : va_P D cls (fl [(wO kC ad td rn pn an jn tn bm fw gp ga bp fc fj rA rC ft kd aG sR (if (opn sv an (nI j) ∧ inR y 10 ∧ ¬ gv (nOf (nI j)) < 0 ∧ prsO td rn an rA rC ft kd aG sT wh dY pd cN sv (nOf (gv (nOf (nI j)))) (nOf (nI j))) then updN sT (nOf (gv (nOf (nI j)))) 2 else sT) (if (opn sv an (nI j) ∧ inR y 10 ∧ ¬ gv (nOf (nI j)) < 0 ∧ prsO td rn an rA rC ft kd aG sT wh dY pd cN sv (nOf (gv (nOf (nI j)))) (nOf (nI j))) then updN wh (nOf (gv (nOf (nI j)))) (nOf y) else wh) (if (opn sv an (nI j) ∧ inR y 10 ∧ ¬ gv (nOf (nI j)) < 0 ∧ prsO td rn an rA rC ft kd aG sT wh dY pd cN sv (nOf (gv (nOf (nI j)))) (nOf (nI j))) then updN dY (nOf (gv (nOf (nI j)))) td else dY) pd cN mN sv nd wr tl lt lT lD gv gn od br)]) s.heap := by rw [← ew11]; exact hP
        have hD : va_D A (fl [(wO kC ad td rn pn an jn tn bm fw gp ga bp fc fj rA rC ft kd aG sR (if (opn sv an (nI j) ∧ inR y 10 ∧ ¬ gv (nOf (nI j)) < 0 ∧ prsO td rn an rA rC ft kd aG sT wh dY pd cN sv (nOf (gv (nOf (nI j)))) (nOf (nI j))) then updN sT (nOf (gv (nOf (nI j)))) 2 else sT) (if (opn sv an (nI j) ∧ inR y 10 ∧ ¬ gv (nOf (nI j)) < 0 ∧ prsO td rn an rA rC ft kd aG sT wh dY pd cN sv (nOf (gv (nOf (nI j)))) (nOf (nI j))) then updN wh (nOf (gv (nOf (nI j)))) (nOf y) else wh) (if (opn sv an (nI j) ∧ inR y 10 ∧ ¬ gv (nOf (nI j)) < 0 ∧ prsO td rn an rA rC ft kd aG sT wh dY pd cN sv (nOf (gv (nOf (nI j)))) (nOf (nI j))) then updN dY (nOf (gv (nOf (nI j)))) td else dY) pd cN mN sv nd wr tl lt lT lD gv gn od br)]) := by rw [← ew11]; exact hD
        have ew12 : sv = (if (opn sv an (nI j) ∧ inR y 10 ∧ ¬ gv (nOf (nI j)) < 0 ∧ prsO td rn an rA rC ft kd aG sT wh dY pd cN sv (nOf (gv (nOf (nI j)))) (nOf (nI j))) then upd sv (nOf (nI j)) (nI 1) else sv) := (if_neg hC).symm
        have hP : va_P D cls (fl [(wO kC ad td rn pn an jn tn bm fw gp ga bp fc fj rA rC ft kd aG sR (if (opn sv an (nI j) ∧ inR y 10 ∧ ¬ gv (nOf (nI j)) < 0 ∧ prsO td rn an rA rC ft kd aG sT wh dY pd cN sv (nOf (gv (nOf (nI j)))) (nOf (nI j))) then updN sT (nOf (gv (nOf (nI j)))) 2 else sT) (if (opn sv an (nI j) ∧ inR y 10 ∧ ¬ gv (nOf (nI j)) < 0 ∧ prsO td rn an rA rC ft kd aG sT wh dY pd cN sv (nOf (gv (nOf (nI j)))) (nOf (nI j))) then updN wh (nOf (gv (nOf (nI j)))) (nOf y) else wh) (if (opn sv an (nI j) ∧ inR y 10 ∧ ¬ gv (nOf (nI j)) < 0 ∧ prsO td rn an rA rC ft kd aG sT wh dY pd cN sv (nOf (gv (nOf (nI j)))) (nOf (nI j))) then updN dY (nOf (gv (nOf (nI j)))) td else dY) pd cN mN (if (opn sv an (nI j) ∧ inR y 10 ∧ ¬ gv (nOf (nI j)) < 0 ∧ prsO td rn an rA rC ft kd aG sT wh dY pd cN sv (nOf (gv (nOf (nI j)))) (nOf (nI j))) then upd sv (nOf (nI j)) (nI 1) else sv) nd wr tl lt lT lD gv gn od br)]) s.heap := by rw [← ew12]; exact hP
        have hD : va_D A (fl [(wO kC ad td rn pn an jn tn bm fw gp ga bp fc fj rA rC ft kd aG sR (if (opn sv an (nI j) ∧ inR y 10 ∧ ¬ gv (nOf (nI j)) < 0 ∧ prsO td rn an rA rC ft kd aG sT wh dY pd cN sv (nOf (gv (nOf (nI j)))) (nOf (nI j))) then updN sT (nOf (gv (nOf (nI j)))) 2 else sT) (if (opn sv an (nI j) ∧ inR y 10 ∧ ¬ gv (nOf (nI j)) < 0 ∧ prsO td rn an rA rC ft kd aG sT wh dY pd cN sv (nOf (gv (nOf (nI j)))) (nOf (nI j))) then updN wh (nOf (gv (nOf (nI j)))) (nOf y) else wh) (if (opn sv an (nI j) ∧ inR y 10 ∧ ¬ gv (nOf (nI j)) < 0 ∧ prsO td rn an rA rC ft kd aG sT wh dY pd cN sv (nOf (gv (nOf (nI j)))) (nOf (nI j))) then updN dY (nOf (gv (nOf (nI j)))) td else dY) pd cN mN (if (opn sv an (nI j) ∧ inR y 10 ∧ ¬ gv (nOf (nI j)) < 0 ∧ prsO td rn an rA rC ft kd aG sT wh dY pd cN sv (nOf (gv (nOf (nI j)))) (nOf (nI j))) then upd sv (nOf (nI j)) (nI 1) else sv) nd wr tl lt lT lD gv gn od br)]) := by rw [← ew12]; exact hD
        exact W.iret (v := (-1)) hx hb hr (fun t ht hW => by subst hAe; exact ⟨⟨(-1), (), rfl, (if_neg hC).symm, by rw [ht]; exact hP, va_K.moved hW.alike hK, hD⟩, hS.F ht⟩) (by subst hAe; exact hS.2.2) d_O_serve_39
      · obtain ⟨k, hk, ek⟩ : ∃ k, k < 8 ∧ gv j = nI k := (hgv j).resolve_left (fun z => h3 (by rw [z]; decide))
        refine lv_aload_n hx hb d_O_serve_24 rfl (lv_at hl 0 rfl) ?_
        refine lv_aload_n hx hb d_O_serve_25 rfl (lv_at hl 0 rfl) ?_
        refine fv_get (ci := 7) (v := .ref (ad 20)) (C := R_O) (T := F_O) (N := 36) hx hb hts (by decide +kernel) hown hK hP 0 0 rfl rfl rfl 27 (by decide) (hts (.fieldLink R_O 69 "PartShelvesModel" "given" "[I") (by decide +kernel)) (fun _ h9 => h9) rfl d_O_serve_26 ?_
        refine lv_iload_n hx hb d_O_serve_29 rfl (lv_at hl 1 rfl) ?_
        refine fa_iald hx hb hK hP 0 20 0 rfl rfl rfl (by omega) (by decide) d_O_serve_30 ?_
        refine nv_topi (y := nI k) (ek) ?_
        refine lv_iload_n hx hb d_O_serve_31 rfl (lv_at hl 1 rfl) ?_
        refine r_calli (W.runV (As := [.int (nI k), .int (nI j)]) (rest := []) ⟨hx, hb, hml, hown, hts⟩ (c_O_isPair l D kC ad td rn pn an jn tn bm fw gp ga bp fc fj rA rC ft kd aG sR sT wh dY pd cN mN sv nd wr tl lt lT lD gv gn od br k j (hk) (by omega) (han) (hsT) (hdY) (htd) (hrn) (hrA) (haG) (hkd) (hpd) (hcN) (hrC) (hwh)) (cwV 2 hts g_O_serve_isPair rfl rfl rfl (by decide +kernel) ⟨Nat.le_of_ble_eq_true rfl, Nat.le_of_ble_eq_true rfl⟩) (r_preV (f_recv (ci := 7) (q0 := 0) hK hP 0 rfl rfl rfl) hK hP) rfl rfl hl.1 rfl (lv_room (Nat.le_of_ble_eq_true rfl)) d_O_serve_32 ⟨Nat.le_of_ble_eq_true rfl, Nat.le_of_ble_eq_true rfl⟩) ?_
        refine lv_if_ne (tgt := 40) hx hb d_O_serve_35 (by decide) (fun h4 => ?_) (fun h4 => ?_)
        · have h4 := bI_n0.mp h4
          have hC : (opn sv an (nI j) ∧ inR y 10 ∧ ¬ gv (nOf (nI j)) < 0 ∧ prsO td rn an rA rC ft kd aG sT wh dY pd cN sv (nOf (gv (nOf (nI j)))) (nOf (nI j))) := ⟨h1, h2, by rw [nOf_nI (by omega)]; exact h3, by rw [nOf_nI (by omega), ek, nOf_nI (by omega)]; exact h4⟩
          obtain ⟨i, hi, rfl⟩ := inR_n (by decide) h2
          refine lv_aload_n hx hb d_O_serve_40 rfl (lv_at hl 0 rfl) ?_
          refine fv_get (ci := 7) (v := .ref (ad 20)) (C := R_O) (T := F_O) (N := 36) hx hb hts (by decide +kernel) hown hK hP 0 0 rfl rfl rfl 27 (by decide) (hts (.fieldLink R_O 69 "PartShelvesModel" "given" "[I") (by decide +kernel)) (fun _ h9 => h9) rfl d_O_serve_41 ?_
          refine lv_iload_n hx hb d_O_serve_44 rfl (lv_at hl 1 rfl) ?_
          refine fa_iald hx hb hK hP 0 20 0 rfl rfl rfl (by omega) (by decide) d_O_serve_45 ?_
          refine nv_topi (y := nI k) (ek) ?_
          refine lv_istore_n (lv' := [(3, .int (nI k)), (0, .ref (ad 0)), (1, .int (nI j)), (2, .int (nI i))]) hx hb d_O_serve_46 rfl hl (by decide) rfl (fun ls hl => ?_)
          refine lv_aload_n hx hb d_O_serve_47 rfl (lv_at hl 1 rfl) ?_
          refine fv_get (ci := 7) (v := .ref (ad 7)) (C := R_O) (T := F_O) (N := 36) hx hb hts (by decide +kernel) hown hK hP 0 0 rfl rfl rfl 9 (by decide) (hts (.fieldLink R_O 30 "PartShelvesModel" "states" "[I") (by decide +kernel)) (fun _ h9 => h9) rfl d_O_serve_48 ?_
          refine lv_iload_n hx hb d_O_serve_51 rfl (lv_at hl 0 rfl) ?_
          refine lv_iconst (v := nI 2) hx hb d_O_serve_52 (by decide) ?_
          refine fa_iastN hx hb hK hP hD hS 0 7 0 rfl rfl rfl (by omega) (by decide) d_O_serve_53 (fun H locs hP hD hS => ?_)
          have hP : va_P D cls (fl [(wO kC ad td rn pn an jn tn bm fw gp ga bp fc fj rA rC ft kd aG sR (updN sT k 2) wh dY pd cN mN sv nd wr tl lt lT lD gv gn od br)]) H := hP
          have hD : va_D A (fl [(wO kC ad td rn pn an jn tn bm fw gp ga bp fc fj rA rC ft kd aG sR (updN sT k 2) wh dY pd cN mN sv nd wr tl lt lT lD gv gn od br)]) := hD
          refine lv_aload_n hx hb d_O_serve_54 rfl (lv_at hl 1 rfl) ?_
          refine fv_get (ci := 7) (v := .ref (ad 8)) (C := R_O) (T := F_O) (N := 36) hx hb hts (by decide +kernel) hown hK hP 0 0 rfl rfl rfl 10 (by decide) (hts (.fieldLink R_O 33 "PartShelvesModel" "whose" "[I") (by decide +kernel)) (fun _ h9 => h9) rfl d_O_serve_55 ?_
          refine lv_iload_n hx hb d_O_serve_58 rfl (lv_at hl 0 rfl) ?_
          refine lv_iload_n hx hb d_O_serve_59 rfl (lv_at hl 3 rfl) ?_
          refine fa_iastN hx hb hK hP hD hS 0 8 0 rfl rfl rfl (by omega) (by decide) d_O_serve_60 (fun H locs hP hD hS => ?_)
          have hP : va_P D cls (fl [(wO kC ad td rn pn an jn tn bm fw gp ga bp fc fj rA rC ft kd aG sR (updN sT k 2) (updN wh k i) dY pd cN mN sv nd wr tl lt lT lD gv gn od br)]) H := hP
          have hD : va_D A (fl [(wO kC ad td rn pn an jn tn bm fw gp ga bp fc fj rA rC ft kd aG sR (updN sT k 2) (updN wh k i) dY pd cN mN sv nd wr tl lt lT lD gv gn od br)]) := hD
          refine lv_aload_n hx hb d_O_serve_61 rfl (lv_at hl 1 rfl) ?_
          refine fv_get (ci := 7) (v := .ref (ad 9)) (C := R_O) (T := F_O) (N := 36) hx hb hts (by decide +kernel) hown hK hP 0 0 rfl rfl rfl 11 (by decide) (hts (.fieldLink R_O 36 "PartShelvesModel" "days" "[I") (by decide +kernel)) (fun _ h9 => h9) rfl d_O_serve_62 ?_
          refine lv_iload_n hx hb d_O_serve_65 rfl (lv_at hl 0 rfl) ?_
          refine lv_aload_n hx hb d_O_serve_66 rfl (lv_at hl 1 rfl) ?_
          refine fv_get (ci := 7) (v := .int (nI td)) (C := R_O) (T := F_O) (N := 36) hx hb hts (by decide +kernel) hown hK hP 0 0 rfl rfl rfl 0 (by decide) (hts (.fieldLink R_O 88 "PartShelvesModel" "today" "I") (by decide +kernel)) (fun _ h9 => h9) rfl d_O_serve_67 ?_
          refine fa_iastN hx hb hK hP hD hS 0 9 0 rfl rfl rfl (by omega) (by decide) d_O_serve_70 (fun H locs hP hD hS => ?_)
          have hP : va_P D cls (fl [(wO kC ad td rn pn an jn tn bm fw gp ga bp fc fj rA rC ft kd aG sR (updN sT k 2) (updN wh k i) (updN dY k td) pd cN mN sv nd wr tl lt lT lD gv gn od br)]) H := hP
          have hD : va_D A (fl [(wO kC ad td rn pn an jn tn bm fw gp ga bp fc fj rA rC ft kd aG sR (updN sT k 2) (updN wh k i) (updN dY k td) pd cN mN sv nd wr tl lt lT lD gv gn od br)]) := hD
          refine lv_aload_n hx hb d_O_serve_71 rfl (lv_at hl 1 rfl) ?_
          refine fv_get (ci := 7) (v := .ref (ad 13)) (C := R_O) (T := F_O) (N := 36) hx hb hts (by decide +kernel) hown hK hP 0 0 rfl rfl rfl 16 (by decide) (hts (.fieldLink R_O 48 "PartShelvesModel" "served" "[Z") (by decide +kernel)) (fun _ h9 => h9) rfl d_O_serve_72 ?_
          refine lv_iload_n hx hb d_O_serve_75 rfl (lv_at hl 2 rfl) ?_
          refine lv_iconst (v := nI 1) hx hb d_O_serve_76 (by decide) ?_
          refine fa_zast hx hb hK hP hD hS 0 13 2 rfl rfl rfl (by decide) (by omega) (by decide) d_O_serve_77 (fun H locs hP hD hS => ?_)
          have hP : va_P D cls (fl [(wO kC ad td rn pn an jn tn bm fw gp ga bp fc fj rA rC ft kd aG sR (updN sT k 2) (updN wh k i) (updN dY k td) pd cN mN (upd sv j (nI 1)) nd wr tl lt lT lD gv gn od br)]) H := hP
          have hD : va_D A (fl [(wO kC ad td rn pn an jn tn bm fw gp ga bp fc fj rA rC ft kd aG sR (updN sT k 2) (updN wh k i) (updN dY k td) pd cN mN (upd sv j (nI 1)) nd wr tl lt lT lD gv gn od br)]) := hD
          refine lv_iload_n hx hb d_O_serve_78 rfl (lv_at hl 0 rfl) ?_
          have ew13 : (updN sT k 2) = (if (opn sv an (nI j) ∧ inR (nI i) 10 ∧ ¬ gv (nOf (nI j)) < 0 ∧ prsO td rn an rA rC ft kd aG sT wh dY pd cN sv (nOf (gv (nOf (nI j)))) (nOf (nI j))) then updN sT (nOf (gv (nOf (nI j)))) 2 else sT) := by rw [if_pos hC, nOf_nI (by omega), ek, nOf_nI (by omega)]
          have hP : va_P D cls (fl [(wO kC ad td rn pn an jn tn bm fw gp ga bp fc fj rA rC ft kd aG sR (if (opn sv an (nI j) ∧ inR (nI i) 10 ∧ ¬ gv (nOf (nI j)) < 0 ∧ prsO td rn an rA rC ft kd aG sT wh dY pd cN sv (nOf (gv (nOf (nI j)))) (nOf (nI j))) then updN sT (nOf (gv (nOf (nI j)))) 2 else sT) (updN wh k i) (updN dY k td) pd cN mN (upd sv j (nI 1)) nd wr tl lt lT lD gv gn od br)]) H := by rw [← ew13]; exact hP
          have hD : va_D A (fl [(wO kC ad td rn pn an jn tn bm fw gp ga bp fc fj rA rC ft kd aG sR (if (opn sv an (nI j) ∧ inR (nI i) 10 ∧ ¬ gv (nOf (nI j)) < 0 ∧ prsO td rn an rA rC ft kd aG sT wh dY pd cN sv (nOf (gv (nOf (nI j)))) (nOf (nI j))) then updN sT (nOf (gv (nOf (nI j)))) 2 else sT) (updN wh k i) (updN dY k td) pd cN mN (upd sv j (nI 1)) nd wr tl lt lT lD gv gn od br)]) := by rw [← ew13]; exact hD
          have ew14 : (updN wh k i) = (if (opn sv an (nI j) ∧ inR (nI i) 10 ∧ ¬ gv (nOf (nI j)) < 0 ∧ prsO td rn an rA rC ft kd aG sT wh dY pd cN sv (nOf (gv (nOf (nI j)))) (nOf (nI j))) then updN wh (nOf (gv (nOf (nI j)))) (nOf (nI i)) else wh) := by rw [if_pos hC, nOf_nI (by omega), ek, nOf_nI (by omega), nOf_nI (by omega)]
          have hP : va_P D cls (fl [(wO kC ad td rn pn an jn tn bm fw gp ga bp fc fj rA rC ft kd aG sR (if (opn sv an (nI j) ∧ inR (nI i) 10 ∧ ¬ gv (nOf (nI j)) < 0 ∧ prsO td rn an rA rC ft kd aG sT wh dY pd cN sv (nOf (gv (nOf (nI j)))) (nOf (nI j))) then updN sT (nOf (gv (nOf (nI j)))) 2 else sT) (if (opn sv an (nI j) ∧ inR (nI i) 10 ∧ ¬ gv (nOf (nI j)) < 0 ∧ prsO td rn an rA rC ft kd aG sT wh dY pd cN sv (nOf (gv (nOf (nI j)))) (nOf (nI j))) then updN wh (nOf (gv (nOf (nI j)))) (nOf (nI i)) else wh) (updN dY k td) pd cN mN (upd sv j (nI 1)) nd wr tl lt lT lD gv gn od br)]) H := by rw [← ew14]; exact hP
          have hD : va_D A (fl [(wO kC ad td rn pn an jn tn bm fw gp ga bp fc fj rA rC ft kd aG sR (if (opn sv an (nI j) ∧ inR (nI i) 10 ∧ ¬ gv (nOf (nI j)) < 0 ∧ prsO td rn an rA rC ft kd aG sT wh dY pd cN sv (nOf (gv (nOf (nI j)))) (nOf (nI j))) then updN sT (nOf (gv (nOf (nI j)))) 2 else sT) (if (opn sv an (nI j) ∧ inR (nI i) 10 ∧ ¬ gv (nOf (nI j)) < 0 ∧ prsO td rn an rA rC ft kd aG sT wh dY pd cN sv (nOf (gv (nOf (nI j)))) (nOf (nI j))) then updN wh (nOf (gv (nOf (nI j)))) (nOf (nI i)) else wh) (updN dY k td) pd cN mN (upd sv j (nI 1)) nd wr tl lt lT lD gv gn od br)]) := by rw [← ew14]; exact hD
          have ew15 : (updN dY k td) = (if (opn sv an (nI j) ∧ inR (nI i) 10 ∧ ¬ gv (nOf (nI j)) < 0 ∧ prsO td rn an rA rC ft kd aG sT wh dY pd cN sv (nOf (gv (nOf (nI j)))) (nOf (nI j))) then updN dY (nOf (gv (nOf (nI j)))) td else dY) := by rw [if_pos hC, nOf_nI (by omega), ek, nOf_nI (by omega)]
          have hP : va_P D cls (fl [(wO kC ad td rn pn an jn tn bm fw gp ga bp fc fj rA rC ft kd aG sR (if (opn sv an (nI j) ∧ inR (nI i) 10 ∧ ¬ gv (nOf (nI j)) < 0 ∧ prsO td rn an rA rC ft kd aG sT wh dY pd cN sv (nOf (gv (nOf (nI j)))) (nOf (nI j))) then updN sT (nOf (gv (nOf (nI j)))) 2 else sT) (if (opn sv an (nI j) ∧ inR (nI i) 10 ∧ ¬ gv (nOf (nI j)) < 0 ∧ prsO td rn an rA rC ft kd aG sT wh dY pd cN sv (nOf (gv (nOf (nI j)))) (nOf (nI j))) then updN wh (nOf (gv (nOf (nI j)))) (nOf (nI i)) else wh) (if (opn sv an (nI j) ∧ inR (nI i) 10 ∧ ¬ gv (nOf (nI j)) < 0 ∧ prsO td rn an rA rC ft kd aG sT wh dY pd cN sv (nOf (gv (nOf (nI j)))) (nOf (nI j))) then updN dY (nOf (gv (nOf (nI j)))) td else dY) pd cN mN (upd sv j (nI 1)) nd wr tl lt lT lD gv gn od br)]) H := by rw [← ew15]; exact hP
          have hD : va_D A (fl [(wO kC ad td rn pn an jn tn bm fw gp ga bp fc fj rA rC ft kd aG sR (if (opn sv an (nI j) ∧ inR (nI i) 10 ∧ ¬ gv (nOf (nI j)) < 0 ∧ prsO td rn an rA rC ft kd aG sT wh dY pd cN sv (nOf (gv (nOf (nI j)))) (nOf (nI j))) then updN sT (nOf (gv (nOf (nI j)))) 2 else sT) (if (opn sv an (nI j) ∧ inR (nI i) 10 ∧ ¬ gv (nOf (nI j)) < 0 ∧ prsO td rn an rA rC ft kd aG sT wh dY pd cN sv (nOf (gv (nOf (nI j)))) (nOf (nI j))) then updN wh (nOf (gv (nOf (nI j)))) (nOf (nI i)) else wh) (if (opn sv an (nI j) ∧ inR (nI i) 10 ∧ ¬ gv (nOf (nI j)) < 0 ∧ prsO td rn an rA rC ft kd aG sT wh dY pd cN sv (nOf (gv (nOf (nI j)))) (nOf (nI j))) then updN dY (nOf (gv (nOf (nI j)))) td else dY) pd cN mN (upd sv j (nI 1)) nd wr tl lt lT lD gv gn od br)]) := by rw [← ew15]; exact hD
          have ew16 : (upd sv j (nI 1)) = (if (opn sv an (nI j) ∧ inR (nI i) 10 ∧ ¬ gv (nOf (nI j)) < 0 ∧ prsO td rn an rA rC ft kd aG sT wh dY pd cN sv (nOf (gv (nOf (nI j)))) (nOf (nI j))) then upd sv (nOf (nI j)) (nI 1) else sv) := by rw [if_pos hC, nOf_nI (by omega)]
          have hP : va_P D cls (fl [(wO kC ad td rn pn an jn tn bm fw gp ga bp fc fj rA rC ft kd aG sR (if (opn sv an (nI j) ∧ inR (nI i) 10 ∧ ¬ gv (nOf (nI j)) < 0 ∧ prsO td rn an rA rC ft kd aG sT wh dY pd cN sv (nOf (gv (nOf (nI j)))) (nOf (nI j))) then updN sT (nOf (gv (nOf (nI j)))) 2 else sT) (if (opn sv an (nI j) ∧ inR (nI i) 10 ∧ ¬ gv (nOf (nI j)) < 0 ∧ prsO td rn an rA rC ft kd aG sT wh dY pd cN sv (nOf (gv (nOf (nI j)))) (nOf (nI j))) then updN wh (nOf (gv (nOf (nI j)))) (nOf (nI i)) else wh) (if (opn sv an (nI j) ∧ inR (nI i) 10 ∧ ¬ gv (nOf (nI j)) < 0 ∧ prsO td rn an rA rC ft kd aG sT wh dY pd cN sv (nOf (gv (nOf (nI j)))) (nOf (nI j))) then updN dY (nOf (gv (nOf (nI j)))) td else dY) pd cN mN (if (opn sv an (nI j) ∧ inR (nI i) 10 ∧ ¬ gv (nOf (nI j)) < 0 ∧ prsO td rn an rA rC ft kd aG sT wh dY pd cN sv (nOf (gv (nOf (nI j)))) (nOf (nI j))) then upd sv (nOf (nI j)) (nI 1) else sv) nd wr tl lt lT lD gv gn od br)]) H := by rw [← ew16]; exact hP
          have hD : va_D A (fl [(wO kC ad td rn pn an jn tn bm fw gp ga bp fc fj rA rC ft kd aG sR (if (opn sv an (nI j) ∧ inR (nI i) 10 ∧ ¬ gv (nOf (nI j)) < 0 ∧ prsO td rn an rA rC ft kd aG sT wh dY pd cN sv (nOf (gv (nOf (nI j)))) (nOf (nI j))) then updN sT (nOf (gv (nOf (nI j)))) 2 else sT) (if (opn sv an (nI j) ∧ inR (nI i) 10 ∧ ¬ gv (nOf (nI j)) < 0 ∧ prsO td rn an rA rC ft kd aG sT wh dY pd cN sv (nOf (gv (nOf (nI j)))) (nOf (nI j))) then updN wh (nOf (gv (nOf (nI j)))) (nOf (nI i)) else wh) (if (opn sv an (nI j) ∧ inR (nI i) 10 ∧ ¬ gv (nOf (nI j)) < 0 ∧ prsO td rn an rA rC ft kd aG sT wh dY pd cN sv (nOf (gv (nOf (nI j)))) (nOf (nI j))) then updN dY (nOf (gv (nOf (nI j)))) td else dY) pd cN mN (if (opn sv an (nI j) ∧ inR (nI i) 10 ∧ ¬ gv (nOf (nI j)) < 0 ∧ prsO td rn an rA rC ft kd aG sT wh dY pd cN sv (nOf (gv (nOf (nI j)))) (nOf (nI j))) then upd sv (nOf (nI j)) (nI 1) else sv) nd wr tl lt lT lD gv gn od br)]) := by rw [← ew16]; exact hD
          exact W.iret (v := nI k) hx hb hr (fun t ht hW => by subst hAe; exact ⟨⟨(nI k), (), rfl, by rw [if_pos hC, nOf_nI (by omega), ek], by rw [ht]; exact hP, va_K.moved hW.alike hK, hD⟩, hS.F ht⟩) (by subst hAe; exact hS.2.2) d_O_serve_79
        · have hC : ¬ (opn sv an (nI j) ∧ inR y 10 ∧ ¬ gv (nOf (nI j)) < 0 ∧ prsO td rn an rA rC ft kd aG sT wh dY pd cN sv (nOf (gv (nOf (nI j)))) (nOf (nI j))) := fun q => by first | (have q4 := q.2.2.2; rw [nOf_nI (by omega), ek, nOf_nI (by omega)] at q4; exact bI_0.mp h4 q4) | (have q3 := q.2.2.1; rw [nOf_nI (by omega)] at q3; exact q3 h3) | exact bI_0.mp h2 q.2.1 | exact bI_0.mp h1 q.1
          refine lv_iconst (v := (-1)) hx hb d_O_serve_38 (by decide) ?_
          have ew17 : sT = (if (opn sv an (nI j) ∧ inR y 10 ∧ ¬ gv (nOf (nI j)) < 0 ∧ prsO td rn an rA rC ft kd aG sT wh dY pd cN sv (nOf (gv (nOf (nI j)))) (nOf (nI j))) then updN sT (nOf (gv (nOf (nI j)))) 2 else sT) := (if_neg hC).symm
          have hP : va_P D cls (fl [(wO kC ad td rn pn an jn tn bm fw gp ga bp fc fj rA rC ft kd aG sR (if (opn sv an (nI j) ∧ inR y 10 ∧ ¬ gv (nOf (nI j)) < 0 ∧ prsO td rn an rA rC ft kd aG sT wh dY pd cN sv (nOf (gv (nOf (nI j)))) (nOf (nI j))) then updN sT (nOf (gv (nOf (nI j)))) 2 else sT) wh dY pd cN mN sv nd wr tl lt lT lD gv gn od br)]) s.heap := by rw [← ew17]; exact hP
          have hD : va_D A (fl [(wO kC ad td rn pn an jn tn bm fw gp ga bp fc fj rA rC ft kd aG sR (if (opn sv an (nI j) ∧ inR y 10 ∧ ¬ gv (nOf (nI j)) < 0 ∧ prsO td rn an rA rC ft kd aG sT wh dY pd cN sv (nOf (gv (nOf (nI j)))) (nOf (nI j))) then updN sT (nOf (gv (nOf (nI j)))) 2 else sT) wh dY pd cN mN sv nd wr tl lt lT lD gv gn od br)]) := by rw [← ew17]; exact hD
          have ew18 : wh = (if (opn sv an (nI j) ∧ inR y 10 ∧ ¬ gv (nOf (nI j)) < 0 ∧ prsO td rn an rA rC ft kd aG sT wh dY pd cN sv (nOf (gv (nOf (nI j)))) (nOf (nI j))) then updN wh (nOf (gv (nOf (nI j)))) (nOf y) else wh) := (if_neg hC).symm
          have hP : va_P D cls (fl [(wO kC ad td rn pn an jn tn bm fw gp ga bp fc fj rA rC ft kd aG sR (if (opn sv an (nI j) ∧ inR y 10 ∧ ¬ gv (nOf (nI j)) < 0 ∧ prsO td rn an rA rC ft kd aG sT wh dY pd cN sv (nOf (gv (nOf (nI j)))) (nOf (nI j))) then updN sT (nOf (gv (nOf (nI j)))) 2 else sT) (if (opn sv an (nI j) ∧ inR y 10 ∧ ¬ gv (nOf (nI j)) < 0 ∧ prsO td rn an rA rC ft kd aG sT wh dY pd cN sv (nOf (gv (nOf (nI j)))) (nOf (nI j))) then updN wh (nOf (gv (nOf (nI j)))) (nOf y) else wh) dY pd cN mN sv nd wr tl lt lT lD gv gn od br)]) s.heap := by rw [← ew18]; exact hP
          have hD : va_D A (fl [(wO kC ad td rn pn an jn tn bm fw gp ga bp fc fj rA rC ft kd aG sR (if (opn sv an (nI j) ∧ inR y 10 ∧ ¬ gv (nOf (nI j)) < 0 ∧ prsO td rn an rA rC ft kd aG sT wh dY pd cN sv (nOf (gv (nOf (nI j)))) (nOf (nI j))) then updN sT (nOf (gv (nOf (nI j)))) 2 else sT) (if (opn sv an (nI j) ∧ inR y 10 ∧ ¬ gv (nOf (nI j)) < 0 ∧ prsO td rn an rA rC ft kd aG sT wh dY pd cN sv (nOf (gv (nOf (nI j)))) (nOf (nI j))) then updN wh (nOf (gv (nOf (nI j)))) (nOf y) else wh) dY pd cN mN sv nd wr tl lt lT lD gv gn od br)]) := by rw [← ew18]; exact hD
          have ew19 : dY = (if (opn sv an (nI j) ∧ inR y 10 ∧ ¬ gv (nOf (nI j)) < 0 ∧ prsO td rn an rA rC ft kd aG sT wh dY pd cN sv (nOf (gv (nOf (nI j)))) (nOf (nI j))) then updN dY (nOf (gv (nOf (nI j)))) td else dY) := (if_neg hC).symm
          have hP : va_P D cls (fl [(wO kC ad td rn pn an jn tn bm fw gp ga bp fc fj rA rC ft kd aG sR (if (opn sv an (nI j) ∧ inR y 10 ∧ ¬ gv (nOf (nI j)) < 0 ∧ prsO td rn an rA rC ft kd aG sT wh dY pd cN sv (nOf (gv (nOf (nI j)))) (nOf (nI j))) then updN sT (nOf (gv (nOf (nI j)))) 2 else sT) (if (opn sv an (nI j) ∧ inR y 10 ∧ ¬ gv (nOf (nI j)) < 0 ∧ prsO td rn an rA rC ft kd aG sT wh dY pd cN sv (nOf (gv (nOf (nI j)))) (nOf (nI j))) then updN wh (nOf (gv (nOf (nI j)))) (nOf y) else wh) (if (opn sv an (nI j) ∧ inR y 10 ∧ ¬ gv (nOf (nI j)) < 0 ∧ prsO td rn an rA rC ft kd aG sT wh dY pd cN sv (nOf (gv (nOf (nI j)))) (nOf (nI j))) then updN dY (nOf (gv (nOf (nI j)))) td else dY) pd cN mN sv nd wr tl lt lT lD gv gn od br)]) s.heap := by rw [← ew19]; exact hP
          have hD : va_D A (fl [(wO kC ad td rn pn an jn tn bm fw gp ga bp fc fj rA rC ft kd aG sR (if (opn sv an (nI j) ∧ inR y 10 ∧ ¬ gv (nOf (nI j)) < 0 ∧ prsO td rn an rA rC ft kd aG sT wh dY pd cN sv (nOf (gv (nOf (nI j)))) (nOf (nI j))) then updN sT (nOf (gv (nOf (nI j)))) 2 else sT) (if (opn sv an (nI j) ∧ inR y 10 ∧ ¬ gv (nOf (nI j)) < 0 ∧ prsO td rn an rA rC ft kd aG sT wh dY pd cN sv (nOf (gv (nOf (nI j)))) (nOf (nI j))) then updN wh (nOf (gv (nOf (nI j)))) (nOf y) else wh) (if (opn sv an (nI j) ∧ inR y 10 ∧ ¬ gv (nOf (nI j)) < 0 ∧ prsO td rn an rA rC ft kd aG sT wh dY pd cN sv (nOf (gv (nOf (nI j)))) (nOf (nI j))) then updN dY (nOf (gv (nOf (nI j)))) td else dY) pd cN mN sv nd wr tl lt lT lD gv gn od br)]) := by rw [← ew19]; exact hD
          have ew20 : sv = (if (opn sv an (nI j) ∧ inR y 10 ∧ ¬ gv (nOf (nI j)) < 0 ∧ prsO td rn an rA rC ft kd aG sT wh dY pd cN sv (nOf (gv (nOf (nI j)))) (nOf (nI j))) then upd sv (nOf (nI j)) (nI 1) else sv) := (if_neg hC).symm
          have hP : va_P D cls (fl [(wO kC ad td rn pn an jn tn bm fw gp ga bp fc fj rA rC ft kd aG sR (if (opn sv an (nI j) ∧ inR y 10 ∧ ¬ gv (nOf (nI j)) < 0 ∧ prsO td rn an rA rC ft kd aG sT wh dY pd cN sv (nOf (gv (nOf (nI j)))) (nOf (nI j))) then updN sT (nOf (gv (nOf (nI j)))) 2 else sT) (if (opn sv an (nI j) ∧ inR y 10 ∧ ¬ gv (nOf (nI j)) < 0 ∧ prsO td rn an rA rC ft kd aG sT wh dY pd cN sv (nOf (gv (nOf (nI j)))) (nOf (nI j))) then updN wh (nOf (gv (nOf (nI j)))) (nOf y) else wh) (if (opn sv an (nI j) ∧ inR y 10 ∧ ¬ gv (nOf (nI j)) < 0 ∧ prsO td rn an rA rC ft kd aG sT wh dY pd cN sv (nOf (gv (nOf (nI j)))) (nOf (nI j))) then updN dY (nOf (gv (nOf (nI j)))) td else dY) pd cN mN (if (opn sv an (nI j) ∧ inR y 10 ∧ ¬ gv (nOf (nI j)) < 0 ∧ prsO td rn an rA rC ft kd aG sT wh dY pd cN sv (nOf (gv (nOf (nI j)))) (nOf (nI j))) then upd sv (nOf (nI j)) (nI 1) else sv) nd wr tl lt lT lD gv gn od br)]) s.heap := by rw [← ew20]; exact hP
          have hD : va_D A (fl [(wO kC ad td rn pn an jn tn bm fw gp ga bp fc fj rA rC ft kd aG sR (if (opn sv an (nI j) ∧ inR y 10 ∧ ¬ gv (nOf (nI j)) < 0 ∧ prsO td rn an rA rC ft kd aG sT wh dY pd cN sv (nOf (gv (nOf (nI j)))) (nOf (nI j))) then updN sT (nOf (gv (nOf (nI j)))) 2 else sT) (if (opn sv an (nI j) ∧ inR y 10 ∧ ¬ gv (nOf (nI j)) < 0 ∧ prsO td rn an rA rC ft kd aG sT wh dY pd cN sv (nOf (gv (nOf (nI j)))) (nOf (nI j))) then updN wh (nOf (gv (nOf (nI j)))) (nOf y) else wh) (if (opn sv an (nI j) ∧ inR y 10 ∧ ¬ gv (nOf (nI j)) < 0 ∧ prsO td rn an rA rC ft kd aG sT wh dY pd cN sv (nOf (gv (nOf (nI j)))) (nOf (nI j))) then updN dY (nOf (gv (nOf (nI j)))) td else dY) pd cN mN (if (opn sv an (nI j) ∧ inR y 10 ∧ ¬ gv (nOf (nI j)) < 0 ∧ prsO td rn an rA rC ft kd aG sT wh dY pd cN sv (nOf (gv (nOf (nI j)))) (nOf (nI j))) then upd sv (nOf (nI j)) (nI 1) else sv) nd wr tl lt lT lD gv gn od br)]) := by rw [← ew20]; exact hD
          exact W.iret (v := (-1)) hx hb hr (fun t ht hW => by subst hAe; exact ⟨⟨(-1), (), rfl, (if_neg hC).symm, by rw [ht]; exact hP, va_K.moved hW.alike hK, hD⟩, hS.F ht⟩) (by subst hAe; exact hS.2.2) d_O_serve_39

abbrev b_O_job : ByteArray := prog_9_method_27_code
def y_O_job : MethodName := ⟨"PartShelvesModel", "job", "()I"⟩
theorem d_O_job_0 : decode b_O_job 0 = .ok (.aload_n 0, 1) := by decide +kernel
theorem d_O_job_1 : decode b_O_job 1 = .ok (.getfield 159, 3) := by decide +kernel
theorem d_O_job_4 : decode b_O_job 4 = .ok (.bipush 6, 2) := by decide +kernel
theorem d_O_job_6 : decode b_O_job 6 = .ok (.if_icmp .ne 5, 3) := by decide +kernel
theorem d_O_job_9 : decode b_O_job 9 = .ok (.iconst (-1), 1) := by decide +kernel
theorem d_O_job_10 : decode b_O_job 10 = .ok (.ireturn, 1) := by decide +kernel
theorem d_O_job_11 : decode b_O_job 11 = .ok (.aload_n 0, 1) := by decide +kernel
theorem d_O_job_12 : decode b_O_job 12 = .ok (.dup, 1) := by decide +kernel
theorem d_O_job_13 : decode b_O_job 13 = .ok (.getfield 159, 3) := by decide +kernel
theorem d_O_job_16 : decode b_O_job 16 = .ok (.iconst 1, 1) := by decide +kernel
theorem d_O_job_17 : decode b_O_job 17 = .ok (.iadd, 1) := by decide +kernel
theorem d_O_job_18 : decode b_O_job 18 = .ok (.putfield 159, 3) := by decide +kernel
theorem d_O_job_21 : decode b_O_job 21 = .ok (.aload_n 0, 1) := by decide +kernel
theorem d_O_job_22 : decode b_O_job 22 = .ok (.getfield 159, 3) := by decide +kernel
theorem d_O_job_25 : decode b_O_job 25 = .ok (.iconst 1, 1) := by decide +kernel
theorem d_O_job_26 : decode b_O_job 26 = .ok (.isub, 1) := by decide +kernel
theorem d_O_job_27 : decode b_O_job 27 = .ok (.ireturn, 1) := by decide +kernel
def w_O_job : List Cond := .code y_O_job b_O_job 1 (some .int) :: ([.fieldLink "PartShelvesModel" 159 "PartShelvesModel" "jobs" "I"] ++ u_ws R_O F_O 36)
set_option maxHeartbeats 4000000 in
set_option maxRecDepth 100000 in
theorem c_O_job (l : Launch) (D : va_G) (kC : Nat → ClassId) (ad : Nat → Nat) (td : Nat) (rn : Nat) (pn : Nat) (an : Nat) (jn : Nat) (tn : Nat) (bm : Int32) (fw : Int64) (gp : Nat) (ga : Nat) (bp : Int32) (fc : Int64) (fj : Nat) (rA : Nat → Nat) (rC : Nat → Nat) (ft : Nat → Int32) (kd : Nat → Nat) (aG : Nat → Nat) (sR : Nat → Nat) (sT : Nat → Nat) (wh : Nat → Nat) (dY : Nat → Nat) (pd : Nat → Nat) (cN : Nat → Nat) (mN : Nat → Nat) (sv : Nat → Int32) (nd : Nat → Nat) (wr : Nat → Nat) (tl : Nat → Nat) (lt : Nat → Int32) (lT : Nat → Nat) (lD : Nat → Nat) (gv : Nat → Int32) (gn : Nat → Int64) (od : Nat → Nat) (br : Nat → Nat) (sz : Nat) (hjn : jn ≤ 6) : Met l y_O_job w_O_job ({ frames := 0, cells := 0, slots := 0, locals := 0 } : Room) (gPre cls D (tyL kC) [.ref (ad 0)] (fl [(wO kC ad td rn pn an jn tn bm fw gp ga bp fc fj rA rC ft kd aG sR sT wh dY pd cN mN sv nd wr tl lt lT lD gv gn od br)]) sz) (gQi cls D (tyL kC) (fl [(wO kC ad td rn pn an jn tn bm fw gp ga bp fc fj rA rC ft kd aG sR sT wh dY pd cN mN sv nd wr tl lt lT lD gv gn od br)]) sz (if jn < 6 then nI jn else -1) (fl [(wO kC ad td rn pn an (if jn < 6 then jn + 1 else jn) tn bm fw gp ga bp fc fj rA rC ft kd aG sR sT wh dY pd cN mN sv nd wr tl lt lT lD gv gn od br)])) 0 0 (va_A (fl [(wO kC ad td rn pn an jn tn bm fw gp ga bp fc fj rA rC ft kd aG sR sT wh dY pd cN mN sv nd wr tl lt lT lD gv gn od br)]) sz) := by
  refine Met.ofW (cc := b_O_job) (maxL := 1) (ret := (some .int)) (by decide) rfl ?_
  intro p e s m args below meth c s₁ B hml hv
  obtain ⟨rfl, hsz, hP, hK, hD0⟩ := hv
  have hx := B.exec
  have hb := B.bytes
  have hr := B.returns
  have hts := atoms_spec (ws := w_O_job) B.pre
  have hown : s.vm.findClass R_O = some m.cls := findClass_of_methodNamed B.named
  have hlocks := B.notSynchronized
  subst hsz
  obtain ⟨A, hAe⟩ : ∃ A : Nat → Prop, A = va_A (fl [(wO kC ad td rn pn an jn tn bm fw gp ga bp fc fj rA rC ft kd aG sR sT wh dY pd cN mN sv nd wr tl lt lT lD gv gn od br)]) s.heap.size := ⟨_, rfl⟩
  have hD : va_D A (fl [(wO kC ad td rn pn an jn tn bm fw gp ga bp fc fj rA rC ft kd aG sR sT wh dY pd cN mN sv nd wr tl lt lT lD gv gn od br)]) := by rw [hAe]; exact hD0.self
  have hA : ∀ q : Nat, s.heap.size ≤ q → A q := fun q h => by rw [hAe]; exact Or.inr h
  have hS : va_S A s.heap s.heap [] := va_S.rf
  have hl := lv_entry ([.ref (ad 0)]) (n := 1) (Nat.le_of_ble_eq_true rfl)
  rw [lg_entry_eq]
  generalize (lg_sl ([.ref (ad 0)]) ++ List.replicate (1 - (lg_sl ([.ref (ad 0)])).length) Slot.unset).toArray = ls at hl ⊢
  have hl : lv_has ls 1 [(0, .ref (ad 0))] := hl
  refine lv_aload_n hx hb d_O_job_0 rfl (lv_at hl 0 rfl) ?_
  refine fv_get (ci := 7) (v := .int (nI jn)) (C := R_O) (T := F_O) (N := 36) hx hb hts (by decide +kernel) hown hK hP 0 0 rfl rfl rfl 17 (by decide) (hts (.fieldLink R_O 159 "PartShelvesModel" "jobs" "I") (by decide +kernel)) (fun _ h9 => h9) rfl d_O_job_1 ?_
  refine lv_bipush (v := nI 6) hx hb d_O_job_4 (by decide +kernel) ?_
  refine nv_icmp_ne (tgt := 11) hx hb d_O_job_6 (by decide) (by omega) (by omega) (fun h1 => ?_) (fun h1 => ?_)
  · have hC : jn < 6 := by omega
    refine lv_aload_n hx hb d_O_job_11 rfl (lv_at hl 0 rfl) ?_
    refine lv_dup hx hb d_O_job_12 rfl ?_
    refine fv_get (ci := 7) (v := .int (nI jn)) (C := R_O) (T := F_O) (N := 36) hx hb hts (by decide +kernel) hown hK hP 0 0 rfl rfl rfl 17 (by decide) (hts (.fieldLink R_O 159 "PartShelvesModel" "jobs" "I") (by decide +kernel)) (fun _ h9 => h9) rfl d_O_job_13 ?_
    refine lv_iconst (v := nI 1) hx hb d_O_job_16 (by decide) ?_
    refine nv_iadd hx hb d_O_job_17 ?_
    refine fv_put (ci := 7) (v := .int (nI (jn + 1))) (ty := (.int)) (C := R_O) (T := F_O) (N := 36) hx hb hts (by decide +kernel) t_O t_O_ok n_O hown hK hP hD hS 0 0 rfl rfl rfl 17 (by decide) (hts (.fieldLink R_O 159 "PartShelvesModel" "jobs" "I") (by decide +kernel)) (fun _ h9 => h9) rfl (by decide +kernel) (rfl) (rfl) (Nat.le_of_ble_eq_true rfl) d_O_job_18 (fun H locs hP hD hS => ?_)
    have hP : va_P D cls (fl [(wO kC ad td rn pn an (jn + 1) tn bm fw gp ga bp fc fj rA rC ft kd aG sR sT wh dY pd cN mN sv nd wr tl lt lT lD gv gn od br)]) H := hP
    have hD : va_D A (fl [(wO kC ad td rn pn an (jn + 1) tn bm fw gp ga bp fc fj rA rC ft kd aG sR sT wh dY pd cN mN sv nd wr tl lt lT lD gv gn od br)]) := hD
    refine lv_aload_n hx hb d_O_job_21 rfl (lv_at hl 0 rfl) ?_
    refine fv_get (ci := 7) (v := .int (nI (jn + 1))) (C := R_O) (T := F_O) (N := 36) hx hb hts (by decide +kernel) hown hK hP 0 0 rfl rfl rfl 17 (by decide) (hts (.fieldLink R_O 159 "PartShelvesModel" "jobs" "I") (by decide +kernel)) (fun _ h9 => h9) rfl d_O_job_22 ?_
    refine lv_iconst (v := nI 1) hx hb d_O_job_25 (by decide) ?_
    refine nv_isub hx hb d_O_job_26 (by omega) ?_
    have ew1 : (jn + 1) = (if jn < 6 then jn + 1 else jn) := by rw [if_pos hC]
    have hP : va_P D cls (fl [(wO kC ad td rn pn an (if jn < 6 then jn + 1 else jn) tn bm fw gp ga bp fc fj rA rC ft kd aG sR sT wh dY pd cN mN sv nd wr tl lt lT lD gv gn od br)]) H := by rw [← ew1]; exact hP
    have hD : va_D A (fl [(wO kC ad td rn pn an (if jn < 6 then jn + 1 else jn) tn bm fw gp ga bp fc fj rA rC ft kd aG sR sT wh dY pd cN mN sv nd wr tl lt lT lD gv gn od br)]) := by rw [← ew1]; exact hD
    exact W.iret (v := nI ((jn + 1) - 1)) hx hb hr (fun t ht hW => by subst hAe; exact ⟨⟨(nI ((jn + 1) - 1)), (), rfl, (if_pos hC).symm, by rw [ht]; exact hP, va_K.moved hW.alike hK, hD⟩, hS.F ht⟩) (by subst hAe; exact hS.2.2) d_O_job_27
  · have hC : ¬ jn < 6 := by omega
    refine lv_iconst (v := (-1)) hx hb d_O_job_9 (by decide) ?_
    have ew2 : jn = (if jn < 6 then jn + 1 else jn) := (if_neg hC).symm
    have hP : va_P D cls (fl [(wO kC ad td rn pn an (if jn < 6 then jn + 1 else jn) tn bm fw gp ga bp fc fj rA rC ft kd aG sR sT wh dY pd cN mN sv nd wr tl lt lT lD gv gn od br)]) s.heap := by rw [← ew2]; exact hP
    have hD : va_D A (fl [(wO kC ad td rn pn an (if jn < 6 then jn + 1 else jn) tn bm fw gp ga bp fc fj rA rC ft kd aG sR sT wh dY pd cN mN sv nd wr tl lt lT lD gv gn od br)]) := by rw [← ew2]; exact hD
    exact W.iret (v := (-1)) hx hb hr (fun t ht hW => by subst hAe; exact ⟨⟨(-1), (), rfl, (if_neg hC).symm, by rw [ht]; exact hP, va_K.moved hW.alike hK, hD⟩, hS.F ht⟩) (by subst hAe; exact hS.2.2) d_O_job_10

abbrev b_O_needs : ByteArray := prog_9_method_28_code
def y_O_needs : MethodName := ⟨"PartShelvesModel", "needs", "(III)Z"⟩
theorem d_O_needs_0 : decode b_O_needs 0 = .ok (.iload_n 1, 1) := by decide +kernel
theorem d_O_needs_1 : decode b_O_needs 1 = .ok (.ifCond .lt 30, 3) := by decide +kernel
theorem d_O_needs_4 : decode b_O_needs 4 = .ok (.iload_n 1, 1) := by decide +kernel
theorem d_O_needs_5 : decode b_O_needs 5 = .ok (.aload_n 0, 1) := by decide +kernel
theorem d_O_needs_6 : decode b_O_needs 6 = .ok (.getfield 159, 3) := by decide +kernel
theorem d_O_needs_9 : decode b_O_needs 9 = .ok (.if_icmp .ge 22, 3) := by decide +kernel
theorem d_O_needs_12 : decode b_O_needs 12 = .ok (.iload_n 2, 1) := by decide +kernel
theorem d_O_needs_13 : decode b_O_needs 13 = .ok (.invokestatic 102, 3) := by decide +kernel
theorem d_O_needs_16 : decode b_O_needs 16 = .ok (.ifCond .eq 15, 3) := by decide +kernel
theorem d_O_needs_19 : decode b_O_needs 19 = .ok (.iload_n 3, 1) := by decide +kernel
theorem d_O_needs_20 : decode b_O_needs 20 = .ok (.i2l, 1) := by decide +kernel
theorem d_O_needs_21 : decode b_O_needs 21 = .ok (.lconst 0, 1) := by decide +kernel
theorem d_O_needs_22 : decode b_O_needs 22 = .ok (.ldc2_w 162, 3) := by decide +kernel
theorem d_O_needs_25 : decode b_O_needs 25 = .ok (.invokestatic 93, 3) := by decide +kernel
theorem d_O_needs_28 : decode b_O_needs 28 = .ok (.ifCond .ne 5, 3) := by decide +kernel
theorem d_O_needs_31 : decode b_O_needs 31 = .ok (.iconst 0, 1) := by decide +kernel
theorem d_O_needs_32 : decode b_O_needs 32 = .ok (.ireturn, 1) := by decide +kernel
theorem d_O_needs_33 : decode b_O_needs 33 = .ok (.aload_n 0, 1) := by decide +kernel
theorem d_O_needs_34 : decode b_O_needs 34 = .ok (.getfield 51, 3) := by decide +kernel
theorem d_O_needs_37 : decode b_O_needs 37 = .ok (.bipush 6, 2) := by decide +kernel
theorem d_O_needs_39 : decode b_O_needs 39 = .ok (.iload_n 1, 1) := by decide +kernel
theorem d_O_needs_40 : decode b_O_needs 40 = .ok (.imul, 1) := by decide +kernel
theorem d_O_needs_41 : decode b_O_needs 41 = .ok (.iload_n 2, 1) := by decide +kernel
theorem d_O_needs_42 : decode b_O_needs 42 = .ok (.iadd, 1) := by decide +kernel
theorem d_O_needs_43 : decode b_O_needs 43 = .ok (.iload_n 3, 1) := by decide +kernel
theorem d_O_needs_44 : decode b_O_needs 44 = .ok (.iastore, 1) := by decide +kernel
theorem d_O_needs_45 : decode b_O_needs 45 = .ok (.iconst 1, 1) := by decide +kernel
theorem d_O_needs_46 : decode b_O_needs 46 = .ok (.ireturn, 1) := by decide +kernel
def w_O_needs : List Cond := .code y_O_needs b_O_needs 4 (some .boolean) :: ([.fieldLink "PartShelvesModel" 159 "PartShelvesModel" "jobs" "I", .methodLink "PartShelvesModel" 102 ⟨"PartShelvesModel", "isKind", "(I)Z"⟩, .static ⟨"PartShelvesModel", "isKind", "(I)Z"⟩, .initialized "PartShelvesModel", .code ⟨"PartShelvesModel", "isKind", "(I)Z"⟩ prog_9_method_4_code 1 (some .boolean), .constantLong "PartShelvesModel" 162 3, .methodLink "PartShelvesModel" 93 ⟨"PartShelvesModel", "isIn", "(JJJ)Z"⟩, .static ⟨"PartShelvesModel", "isIn", "(JJJ)Z"⟩, .code ⟨"PartShelvesModel", "isIn", "(JJJ)Z"⟩ prog_9_method_3_code 6 (some .boolean), .fieldLink "PartShelvesModel" 51 "PartShelvesModel" "needed" "[I"] ++ u_ws R_O F_O 36)
set_option maxRecDepth 20000 in
theorem g_O_needs_isKind : GoodIn w_O_needs (wsS R_O 102 y_O_isKind w_O_isKind) := goodIn_p _ [5] rfl (by decide +kernel)
set_option maxRecDepth 20000 in
theorem g_O_needs_isIn : GoodIn w_O_needs (wsS R_O 93 y_O_isIn w_O_isIn) := goodIn_p _ [9] rfl (by decide +kernel)
set_option maxHeartbeats 4000000 in
set_option maxRecDepth 100000 in
theorem c_O_needs (l : Launch) (D : va_G) (kC : Nat → ClassId) (ad : Nat → Nat) (td : Nat) (rn : Nat) (pn : Nat) (an : Nat) (jn : Nat) (tn : Nat) (bm : Int32) (fw : Int64) (gp : Nat) (ga : Nat) (bp : Int32) (fc : Int64) (fj : Nat) (rA : Nat → Nat) (rC : Nat → Nat) (ft : Nat → Int32) (kd : Nat → Nat) (aG : Nat → Nat) (sR : Nat → Nat) (sT : Nat → Nat) (wh : Nat → Nat) (dY : Nat → Nat) (pd : Nat → Nat) (cN : Nat → Nat) (mN : Nat → Nat) (sv : Nat → Int32) (nd : Nat → Nat) (wr : Nat → Nat) (tl : Nat → Nat) (lt : Nat → Int32) (lT : Nat → Nat) (lD : Nat → Nat) (gv : Nat → Int32) (gn : Nat → Int64) (od : Nat → Nat) (br : Nat → Nat) (x : Int32) (y : Int32) (z : Int32) (sz : Nat) (hjn : jn ≤ 6) : Met l y_O_needs w_O_needs ({ frames := 1, cells := 0, slots := 0, locals := 25 } : Room) (gPre cls D (tyL kC) [.ref (ad 0), .int x, .int y, .int z] (fl [(wO kC ad td rn pn an jn tn bm fw gp ga bp fc fj rA rC ft kd aG sR sT wh dY pd cN mN sv nd wr tl lt lT lD gv gn od br)]) sz) (gQi cls D (tyL kC) (fl [(wO kC ad td rn pn an jn tn bm fw gp ga bp fc fj rA rC ft kd aG sR sT wh dY pd cN mN sv nd wr tl lt lT lD gv gn od br)]) sz (bI (inR x jn ∧ inR y 6 ∧ inI 0 3 z)) (fl [(wO kC ad td rn pn an jn tn bm fw gp ga bp fc fj rA rC ft kd aG sR sT wh dY pd cN mN sv (if (inR x jn ∧ inR y 6 ∧ inI 0 3 z) then updN nd (6 * nOf x + nOf y) (nOf z) else nd) wr tl lt lT lD gv gn od br)])) 0 0 (va_A (fl [(wO kC ad td rn pn an jn tn bm fw gp ga bp fc fj rA rC ft kd aG sR sT wh dY pd cN mN sv nd wr tl lt lT lD gv gn od br)]) sz) := by
  refine Met.ofW (cc := b_O_needs) (maxL := 4) (ret := (some .boolean)) (by decide) rfl ?_
  intro p e s m args below meth c s₁ B hml hv
  obtain ⟨rfl, hsz, hP, hK, hD0⟩ := hv
  have hx := B.exec
  have hb := B.bytes
  have hr := B.returns
  have hts := atoms_spec (ws := w_O_needs) B.pre
  have hown : s.vm.findClass R_O = some m.cls := findClass_of_methodNamed B.named
  have hlocks := B.notSynchronized
  subst hsz
  obtain ⟨A, hAe⟩ : ∃ A : Nat → Prop, A = va_A (fl [(wO kC ad td rn pn an jn tn bm fw gp ga bp fc fj rA rC ft kd aG sR sT wh dY pd cN mN sv nd wr tl lt lT lD gv gn od br)]) s.heap.size := ⟨_, rfl⟩
  have hD : va_D A (fl [(wO kC ad td rn pn an jn tn bm fw gp ga bp fc fj rA rC ft kd aG sR sT wh dY pd cN mN sv nd wr tl lt lT lD gv gn od br)]) := by rw [hAe]; exact hD0.self
  have hA : ∀ q : Nat, s.heap.size ≤ q → A q := fun q h => by rw [hAe]; exact Or.inr h
  have hS : va_S A s.heap s.heap [] := va_S.rf
  have hl := lv_entry ([.ref (ad 0), .int x, .int y, .int z]) (n := 4) (Nat.le_of_ble_eq_true rfl)
  rw [lg_entry_eq]
  generalize (lg_sl ([.ref (ad 0), .int x, .int y, .int z]) ++ List.replicate (4 - (lg_sl ([.ref (ad 0), .int x, .int y, .int z])).length) Slot.unset).toArray = ls at hl ⊢
  have hl : lv_has ls 4 [(0, .ref (ad 0)), (1, .int x), (2, .int y), (3, .int z)] := hl
  refine lv_iload_n hx hb d_O_needs_0 rfl (lv_at hl 1 rfl) ?_
  refine lv_if_lt (tgt := 31) hx hb d_O_needs_1 (by decide) (fun h0 => ?_) (fun h0 => ?_)
  · have hC : ¬ (inR x jn ∧ inR y 6 ∧ inI 0 3 z) := fun q => by first | exact bI_0.mp h3 (inL_i.mpr q.2.2) | exact bI_0.mp h2 q.2.1 | exact inR_ge (by omega) h1 q.1 | exact inR_lt h0 q.1
    refine lv_iconst (v := nI 0) hx hb d_O_needs_31 (by decide) ?_
    have ew1 : nd = (if (inR x jn ∧ inR y 6 ∧ inI 0 3 z) then updN nd (6 * nOf x + nOf y) (nOf z) else nd) := (if_neg hC).symm
    have hP : va_P D cls (fl [(wO kC ad td rn pn an jn tn bm fw gp ga bp fc fj rA rC ft kd aG sR sT wh dY pd cN mN sv (if (inR x jn ∧ inR y 6 ∧ inI 0 3 z) then updN nd (6 * nOf x + nOf y) (nOf z) else nd) wr tl lt lT lD gv gn od br)]) s.heap := by rw [← ew1]; exact hP
    have hD : va_D A (fl [(wO kC ad td rn pn an jn tn bm fw gp ga bp fc fj rA rC ft kd aG sR sT wh dY pd cN mN sv (if (inR x jn ∧ inR y 6 ∧ inI 0 3 z) then updN nd (6 * nOf x + nOf y) (nOf z) else nd) wr tl lt lT lD gv gn od br)]) := by rw [← ew1]; exact hD
    exact W.zret (v := nI 0) hx hb hr (nar_b (by first | exact Or.inl rfl | exact Or.inr rfl | exact bI_01)) (fun t ht hW => by subst hAe; exact ⟨⟨(nI 0), (), rfl, (bI_f hC).symm, by rw [ht]; exact hP, va_K.moved hW.alike hK, hD⟩, hS.F ht⟩) (by subst hAe; exact hS.2.2) d_O_needs_32
  · refine lv_iload_n hx hb d_O_needs_4 rfl (lv_at hl 1 rfl) ?_
    refine lv_aload_n hx hb d_O_needs_5 rfl (lv_at hl 0 rfl) ?_
    refine fv_get (ci := 7) (v := .int (nI jn)) (C := R_O) (T := F_O) (N := 36) hx hb hts (by decide +kernel) hown hK hP 0 0 rfl rfl rfl 17 (by decide) (hts (.fieldLink R_O 159 "PartShelvesModel" "jobs" "I") (by decide +kernel)) (fun _ h9 => h9) rfl d_O_needs_6 ?_
    refine lv_icmp_ge (tgt := 31) hx hb d_O_needs_9 (by decide) (fun h1 => ?_) (fun h1 => ?_)
    · have hC : ¬ (inR x jn ∧ inR y 6 ∧ inI 0 3 z) := fun q => by first | exact bI_0.mp h3 (inL_i.mpr q.2.2) | exact bI_0.mp h2 q.2.1 | exact inR_ge (by omega) h1 q.1 | exact inR_lt h0 q.1
      refine lv_iconst (v := nI 0) hx hb d_O_needs_31 (by decide) ?_
      have ew2 : nd = (if (inR x jn ∧ inR y 6 ∧ inI 0 3 z) then updN nd (6 * nOf x + nOf y) (nOf z) else nd) := (if_neg hC).symm
      have hP : va_P D cls (fl [(wO kC ad td rn pn an jn tn bm fw gp ga bp fc fj rA rC ft kd aG sR sT wh dY pd cN mN sv (if (inR x jn ∧ inR y 6 ∧ inI 0 3 z) then updN nd (6 * nOf x + nOf y) (nOf z) else nd) wr tl lt lT lD gv gn od br)]) s.heap := by rw [← ew2]; exact hP
      have hD : va_D A (fl [(wO kC ad td rn pn an jn tn bm fw gp ga bp fc fj rA rC ft kd aG sR sT wh dY pd cN mN sv (if (inR x jn ∧ inR y 6 ∧ inI 0 3 z) then updN nd (6 * nOf x + nOf y) (nOf z) else nd) wr tl lt lT lD gv gn od br)]) := by rw [← ew2]; exact hD
      exact W.zret (v := nI 0) hx hb hr (nar_b (by first | exact Or.inl rfl | exact Or.inr rfl | exact bI_01)) (fun t ht hW => by subst hAe; exact ⟨⟨(nI 0), (), rfl, (bI_f hC).symm, by rw [ht]; exact hP, va_K.moved hW.alike hK, hD⟩, hS.F ht⟩) (by subst hAe; exact hS.2.2) d_O_needs_32
    · obtain ⟨j, hj, rfl⟩ := in_of (by omega) h0 h1
      refine lv_iload_n hx hb d_O_needs_12 rfl (lv_at hl 2 rfl) ?_
      refine r_calli (W.runS (As := [.int y]) (rest := []) ⟨hx, hb, hml, hown, hts⟩ (c_O_isKind l y) (cwS 1 hts g_O_needs_isKind rfl rfl rfl (by decide +kernel) ⟨Nat.le_of_ble_eq_true rfl, Nat.le_of_ble_eq_true rfl⟩) p0_preS rfl rfl hl.1 rfl (lv_room (Nat.le_of_ble_eq_true rfl)) d_O_needs_13 ⟨Nat.le_of_ble_eq_true rfl, Nat.le_of_ble_eq_true rfl⟩) ?_
      refine lv_if_eq (tgt := 31) hx hb d_O_needs_16 (by decide) (fun h2 => ?_) (fun h2 => ?_)
      · have hC : ¬ (inR (nI j) jn ∧ inR y 6 ∧ inI 0 3 z) := fun q => by first | exact bI_0.mp h3 (inL_i.mpr q.2.2) | exact bI_0.mp h2 q.2.1 | exact inR_ge (by omega) h1 q.1 | exact inR_lt h0 q.1
        refine lv_iconst (v := nI 0) hx hb d_O_needs_31 (by decide) ?_
        have ew3 : nd = (if (inR (nI j) jn ∧ inR y 6 ∧ inI 0 3 z) then updN nd (6 * nOf (nI j) + nOf y) (nOf z) else nd) := (if_neg hC).symm
        have hP : va_P D cls (fl [(wO kC ad td rn pn an jn tn bm fw gp ga bp fc fj rA rC ft kd aG sR sT wh dY pd cN mN sv (if (inR (nI j) jn ∧ inR y 6 ∧ inI 0 3 z) then updN nd (6 * nOf (nI j) + nOf y) (nOf z) else nd) wr tl lt lT lD gv gn od br)]) s.heap := by rw [← ew3]; exact hP
        have hD : va_D A (fl [(wO kC ad td rn pn an jn tn bm fw gp ga bp fc fj rA rC ft kd aG sR sT wh dY pd cN mN sv (if (inR (nI j) jn ∧ inR y 6 ∧ inI 0 3 z) then updN nd (6 * nOf (nI j) + nOf y) (nOf z) else nd) wr tl lt lT lD gv gn od br)]) := by rw [← ew3]; exact hD
        exact W.zret (v := nI 0) hx hb hr (nar_b (by first | exact Or.inl rfl | exact Or.inr rfl | exact bI_01)) (fun t ht hW => by subst hAe; exact ⟨⟨(nI 0), (), rfl, (bI_f hC).symm, by rw [ht]; exact hP, va_K.moved hW.alike hK, hD⟩, hS.F ht⟩) (by subst hAe; exact hS.2.2) d_O_needs_32
      · have h2 := bI_n0.mp h2
        refine lv_iload_n hx hb d_O_needs_19 rfl (lv_at hl 3 rfl) ?_
        refine lv_i2l hx hb d_O_needs_20 rfl ?_
        refine lv_lconst (v := lN 0) hx hb d_O_needs_21 (by decide) ?_
        refine lv_ldc2 (v := 3) hx hb hown (hts (.constantLong R_O 162 3) (by decide +kernel)) d_O_needs_22 ?_
        refine nv_topl (y := lN 3) (by decide +kernel) ?_
        refine r_calli (W.runS (As := [.long z.toInt64, .long (lN 0), .long (lN 3)]) (rest := []) ⟨hx, hb, hml, hown, hts⟩ (c_O_isIn l z.toInt64 0 3 (by decide) (by decide)) (cwS 3 hts g_O_needs_isIn rfl rfl rfl (by decide +kernel) ⟨Nat.le_of_ble_eq_true rfl, Nat.le_of_ble_eq_true rfl⟩) p0_preS rfl rfl hl.1 rfl (lv_room (Nat.le_of_ble_eq_true rfl)) d_O_needs_25 ⟨Nat.le_of_ble_eq_true rfl, Nat.le_of_ble_eq_true rfl⟩) ?_
        refine lv_if_ne (tgt := 33) hx hb d_O_needs_28 (by decide) (fun h3 => ?_) (fun h3 => ?_)
        · have h3 := inL_i.mp (bI_n0.mp h3)
          have hC : (inR (nI j) jn ∧ inR y 6 ∧ inI 0 3 z) := ⟨(inR_nI (by omega)).mpr hj, h2, h3⟩
          obtain ⟨k, hk, rfl⟩ := inR_n (by decide) h2
          obtain ⟨i, hi1, hi2, rfl⟩ := inI_n (by decide) h3
          refine lv_aload_n hx hb d_O_needs_33 rfl (lv_at hl 0 rfl) ?_
          refine fv_get (ci := 7) (v := .ref (ad 14)) (C := R_O) (T := F_O) (N := 36) hx hb hts (by decide +kernel) hown hK hP 0 0 rfl rfl rfl 18 (by decide) (hts (.fieldLink R_O 51 "PartShelvesModel" "needed" "[I") (by decide +kernel)) (fun _ h9 => h9) rfl d_O_needs_34 ?_
          refine lv_bipush (v := nI 6) hx hb d_O_needs_37 (by decide +kernel) ?_
          refine lv_iload_n hx hb d_O_needs_39 rfl (lv_at hl 1 rfl) ?_
          refine nv_imul hx hb d_O_needs_40 ?_
          refine lv_iload_n hx hb d_O_needs_41 rfl (lv_at hl 2 rfl) ?_
          refine nv_iadd hx hb d_O_needs_42 ?_
          refine lv_iload_n hx hb d_O_needs_43 rfl (lv_at hl 3 rfl) ?_
          refine fa_iastN hx hb hK hP hD hS 0 14 0 rfl rfl rfl (by omega) (by decide) d_O_needs_44 (fun H locs hP hD hS => ?_)
          have hP : va_P D cls (fl [(wO kC ad td rn pn an jn tn bm fw gp ga bp fc fj rA rC ft kd aG sR sT wh dY pd cN mN sv (updN nd (6 * j + k) i) wr tl lt lT lD gv gn od br)]) H := hP
          have hD : va_D A (fl [(wO kC ad td rn pn an jn tn bm fw gp ga bp fc fj rA rC ft kd aG sR sT wh dY pd cN mN sv (updN nd (6 * j + k) i) wr tl lt lT lD gv gn od br)]) := hD
          refine lv_iconst (v := nI 1) hx hb d_O_needs_45 (by decide) ?_
          have ew4 : (updN nd (6 * j + k) i) = (if (inR (nI j) jn ∧ inR (nI k) 6 ∧ inI 0 3 (nI i)) then updN nd (6 * nOf (nI j) + nOf (nI k)) (nOf (nI i)) else nd) := by rw [if_pos hC, nOf_nI (by omega), nOf_nI (by omega), nOf_nI (by omega)]
          have hP : va_P D cls (fl [(wO kC ad td rn pn an jn tn bm fw gp ga bp fc fj rA rC ft kd aG sR sT wh dY pd cN mN sv (if (inR (nI j) jn ∧ inR (nI k) 6 ∧ inI 0 3 (nI i)) then updN nd (6 * nOf (nI j) + nOf (nI k)) (nOf (nI i)) else nd) wr tl lt lT lD gv gn od br)]) H := by rw [← ew4]; exact hP
          have hD : va_D A (fl [(wO kC ad td rn pn an jn tn bm fw gp ga bp fc fj rA rC ft kd aG sR sT wh dY pd cN mN sv (if (inR (nI j) jn ∧ inR (nI k) 6 ∧ inI 0 3 (nI i)) then updN nd (6 * nOf (nI j) + nOf (nI k)) (nOf (nI i)) else nd) wr tl lt lT lD gv gn od br)]) := by rw [← ew4]; exact hD
          exact W.zret (v := nI 1) hx hb hr (nar_b (by first | exact Or.inl rfl | exact Or.inr rfl | exact bI_01)) (fun t ht hW => by subst hAe; exact ⟨⟨(nI 1), (), rfl, (bI_t hC).symm, by rw [ht]; exact hP, va_K.moved hW.alike hK, hD⟩, hS.F ht⟩) (by subst hAe; exact hS.2.2) d_O_needs_46
        · have hC : ¬ (inR (nI j) jn ∧ inR y 6 ∧ inI 0 3 z) := fun q => by first | exact bI_0.mp h3 (inL_i.mpr q.2.2) | exact bI_0.mp h2 q.2.1 | exact inR_ge (by omega) h1 q.1 | exact inR_lt h0 q.1
          refine lv_iconst (v := nI 0) hx hb d_O_needs_31 (by decide) ?_
          have ew5 : nd = (if (inR (nI j) jn ∧ inR y 6 ∧ inI 0 3 z) then updN nd (6 * nOf (nI j) + nOf y) (nOf z) else nd) := (if_neg hC).symm
          have hP : va_P D cls (fl [(wO kC ad td rn pn an jn tn bm fw gp ga bp fc fj rA rC ft kd aG sR sT wh dY pd cN mN sv (if (inR (nI j) jn ∧ inR y 6 ∧ inI 0 3 z) then updN nd (6 * nOf (nI j) + nOf y) (nOf z) else nd) wr tl lt lT lD gv gn od br)]) s.heap := by rw [← ew5]; exact hP
          have hD : va_D A (fl [(wO kC ad td rn pn an jn tn bm fw gp ga bp fc fj rA rC ft kd aG sR sT wh dY pd cN mN sv (if (inR (nI j) jn ∧ inR y 6 ∧ inI 0 3 z) then updN nd (6 * nOf (nI j) + nOf y) (nOf z) else nd) wr tl lt lT lD gv gn od br)]) := by rw [← ew5]; exact hD
          exact W.zret (v := nI 0) hx hb hr (nar_b (by first | exact Or.inl rfl | exact Or.inr rfl | exact bI_01)) (fun t ht hW => by subst hAe; exact ⟨⟨(nI 0), (), rfl, (bI_f hC).symm, by rw [ht]; exact hP, va_K.moved hW.alike hK, hD⟩, hS.F ht⟩) (by subst hAe; exact hS.2.2) d_O_needs_32

abbrev b_O_does : ByteArray := prog_9_method_34_code
def y_O_does : MethodName := ⟨"PartShelvesModel", "does", "(I)Z"⟩
theorem d_O_does_0 : decode b_O_does 0 = .ok (.iload_n 1, 1) := by decide +kernel
theorem d_O_does_1 : decode b_O_does 1 = .ok (.ifCond .lt 25, 3) := by decide +kernel
theorem d_O_does_4 : decode b_O_does 4 = .ok (.iload_n 1, 1) := by decide +kernel
theorem d_O_does_5 : decode b_O_does 5 = .ok (.bipush 6, 2) := by decide +kernel
theorem d_O_does_7 : decode b_O_does 7 = .ok (.if_icmp .ge 19, 3) := by decide +kernel
theorem d_O_does_10 : decode b_O_does 10 = .ok (.aload_n 0, 1) := by decide +kernel
theorem d_O_does_11 : decode b_O_does 11 = .ok (.getfield 177, 3) := by decide +kernel
theorem d_O_does_14 : decode b_O_does 14 = .ok (.iload_n 1, 1) := by decide +kernel
theorem d_O_does_15 : decode b_O_does 15 = .ok (.ishr, 1) := by decide +kernel
theorem d_O_does_16 : decode b_O_does 16 = .ok (.iconst 1, 1) := by decide +kernel
theorem d_O_does_17 : decode b_O_does 17 = .ok (.iand, 1) := by decide +kernel
theorem d_O_does_18 : decode b_O_does 18 = .ok (.iconst 1, 1) := by decide +kernel
theorem d_O_does_19 : decode b_O_does 19 = .ok (.if_icmp .ne 7, 3) := by decide +kernel
theorem d_O_does_22 : decode b_O_does 22 = .ok (.iconst 1, 1) := by decide +kernel
theorem d_O_does_23 : decode b_O_does 23 = .ok (.goto 4, 3) := by decide +kernel
theorem d_O_does_26 : decode b_O_does 26 = .ok (.iconst 0, 1) := by decide +kernel
theorem d_O_does_27 : decode b_O_does 27 = .ok (.ireturn, 1) := by decide +kernel
def w_O_does : List Cond := .code y_O_does b_O_does 2 (some .boolean) :: ([.fieldLink "PartShelvesModel" 177 "PartShelvesModel" "foundJobs" "I"] ++ u_ws R_O F_O 36)
set_option maxHeartbeats 4000000 in
set_option maxRecDepth 100000 in
theorem c_O_does (l : Launch) (D : va_G) (kC : Nat → ClassId) (ad : Nat → Nat) (td : Nat) (rn : Nat) (pn : Nat) (an : Nat) (jn : Nat) (tn : Nat) (bm : Int32) (fw : Int64) (gp : Nat) (ga : Nat) (bp : Int32) (fc : Int64) (fj : Nat) (rA : Nat → Nat) (rC : Nat → Nat) (ft : Nat → Int32) (kd : Nat → Nat) (aG : Nat → Nat) (sR : Nat → Nat) (sT : Nat → Nat) (wh : Nat → Nat) (dY : Nat → Nat) (pd : Nat → Nat) (cN : Nat → Nat) (mN : Nat → Nat) (sv : Nat → Int32) (nd : Nat → Nat) (wr : Nat → Nat) (tl : Nat → Nat) (lt : Nat → Int32) (lT : Nat → Nat) (lD : Nat → Nat) (gv : Nat → Int32) (gn : Nat → Int64) (od : Nat → Nat) (br : Nat → Nat) (x : Int32) (hfj : fj < 64) : Met l y_O_does w_O_does ({ frames := 0, cells := 0, slots := 0, locals := 0 } : Room) (gPr cls D (tyL kC) [.ref (ad 0), .int x] (fl [(wO kC ad td rn pn an jn tn bm fw gp ga bp fc fj rA rC ft kd aG sR sT wh dY pd cN mN sv nd wr tl lt lT lD gv gn od br)])) (vp_Si (fun r => r = bI (inR x 6 ∧ fj / 2 ^ nOf x % 2 = 1))) 0 0 (fun _ => False) := by
  refine Met.ofW (cc := b_O_does) (maxL := 2) (ret := (some .boolean)) (by decide) rfl ?_
  intro p e s m args below meth c s₁ B hml hv
  obtain ⟨rfl, hP, hK⟩ := hv
  have hx := B.exec
  have hb := B.bytes
  have hr := B.returns
  have hts := atoms_spec (ws := w_O_does) B.pre
  have hown : s.vm.findClass R_O = some m.cls := findClass_of_methodNamed B.named
  have hlocks := B.notSynchronized
  have hl := lv_entry ([.ref (ad 0), .int x]) (n := 2) (Nat.le_of_ble_eq_true rfl)
  rw [lg_entry_eq]
  generalize (lg_sl ([.ref (ad 0), .int x]) ++ List.replicate (2 - (lg_sl ([.ref (ad 0), .int x])).length) Slot.unset).toArray = ls at hl ⊢
  have hl : lv_has ls 2 [(0, .ref (ad 0)), (1, .int x)] := hl
  refine lv_iload_n hx hb d_O_does_0 rfl (lv_at hl 1 rfl) ?_
  refine lv_if_lt (tgt := 26) hx hb d_O_does_1 (by decide) (fun h0 => ?_) (fun h0 => ?_)
  · refine lv_iconst (v := nI 0) hx hb d_O_does_26 (by decide) ?_
    exact W.zret (v := nI 0) hx hb hr (nar_b (by first | exact Or.inl rfl | exact Or.inr rfl | exact bI_01)) (fun t ht hW => ⟨_, rfl, (bI_f (fun q => by first | (have q2 := q.2; rw [nOf_nI (by omega)] at q2; exact h2 q2) | exact inR_ge (by decide) h1 q.1 | exact inR_lt h0 q.1)).symm, ht⟩) t_nil d_O_does_27
  · refine lv_iload_n hx hb d_O_does_4 rfl (lv_at hl 1 rfl) ?_
    refine lv_bipush (v := nI 6) hx hb d_O_does_5 (by decide +kernel) ?_
    refine lv_icmp_ge (tgt := 26) hx hb d_O_does_7 (by decide) (fun h1 => ?_) (fun h1 => ?_)
    · refine lv_iconst (v := nI 0) hx hb d_O_does_26 (by decide) ?_
      exact W.zret (v := nI 0) hx hb hr (nar_b (by first | exact Or.inl rfl | exact Or.inr rfl | exact bI_01)) (fun t ht hW => ⟨_, rfl, (bI_f (fun q => by first | (have q2 := q.2; rw [nOf_nI (by omega)] at q2; exact h2 q2) | exact inR_ge (by decide) h1 q.1 | exact inR_lt h0 q.1)).symm, ht⟩) t_nil d_O_does_27
    · obtain ⟨j, hj, rfl⟩ := in_of (by decide) h0 h1
      refine lv_aload_n hx hb d_O_does_10 rfl (lv_at hl 0 rfl) ?_
      refine fv_get (ci := 7) (v := .int (nI fj)) (C := R_O) (T := F_O) (N := 36) hx hb hts (by decide +kernel) hown hK hP 0 0 rfl rfl rfl 33 (by decide) (hts (.fieldLink R_O 177 "PartShelvesModel" "foundJobs" "I") (by decide +kernel)) (fun _ h9 => h9) rfl d_O_does_11 ?_
      refine lv_iload_n hx hb d_O_does_14 rfl (lv_at hl 1 rfl) ?_
      refine lv_ishr hx hb d_O_does_15 ?_
      refine lv_iconst (v := nI 1) hx hb d_O_does_16 (by decide) ?_
      refine lv_iand hx hb d_O_does_17 ?_
      refine nv_topi (y := nI (fj / 2 ^ j % 2)) (bitI (by omega) (by omega)) ?_
      refine lv_iconst (v := nI 1) hx hb d_O_does_18 (by decide) ?_
      refine nv_icmp_ne (tgt := 26) hx hb d_O_does_19 (by decide) (by omega) (by omega) (fun h2 => ?_) (fun h2 => ?_)
      · refine lv_iconst (v := nI 0) hx hb d_O_does_26 (by decide) ?_
        exact W.zret (v := nI 0) hx hb hr (nar_b (by first | exact Or.inl rfl | exact Or.inr rfl | exact bI_01)) (fun t ht hW => ⟨_, rfl, (bI_f (fun q => by first | (have q2 := q.2; rw [nOf_nI (by omega)] at q2; exact h2 q2) | exact inR_ge (by decide) h1 q.1 | exact inR_lt h0 q.1)).symm, ht⟩) t_nil d_O_does_27
      · refine lv_iconst (v := nI 1) hx hb d_O_does_22 (by decide) ?_
        refine lv_goto (tgt := 27) hx hb d_O_does_23 (by decide) ?_
        exact W.zret (v := nI 1) hx hb hr (nar_b (by first | exact Or.inl rfl | exact Or.inr rfl | exact bI_01)) (fun t ht hW => ⟨_, rfl, (bI_t ⟨(inR_nI (by omega)).mpr hj, by rw [nOf_nI (by omega)]; exact h2⟩).symm, ht⟩) t_nil d_O_does_27

abbrev b_O_warranty : ByteArray := prog_9_method_35_code
def y_O_warranty : MethodName := ⟨"PartShelvesModel", "warranty", "(II)Z"⟩
theorem d_O_warranty_0 : decode b_O_warranty 0 = .ok (.iload_n 1, 1) := by decide +kernel
theorem d_O_warranty_1 : decode b_O_warranty 1 = .ok (.invokestatic 102, 3) := by decide +kernel
theorem d_O_warranty_4 : decode b_O_warranty 4 = .ok (.ifCond .eq 15, 3) := by decide +kernel
theorem d_O_warranty_7 : decode b_O_warranty 7 = .ok (.iload_n 2, 1) := by decide +kernel
theorem d_O_warranty_8 : decode b_O_warranty 8 = .ok (.i2l, 1) := by decide +kernel
theorem d_O_warranty_9 : decode b_O_warranty 9 = .ok (.lconst 0, 1) := by decide +kernel
theorem d_O_warranty_10 : decode b_O_warranty 10 = .ok (.ldc2_w 100, 3) := by decide +kernel
theorem d_O_warranty_13 : decode b_O_warranty 13 = .ok (.invokestatic 93, 3) := by decide +kernel
theorem d_O_warranty_16 : decode b_O_warranty 16 = .ok (.ifCond .ne 5, 3) := by decide +kernel
theorem d_O_warranty_19 : decode b_O_warranty 19 = .ok (.iconst 0, 1) := by decide +kernel
theorem d_O_warranty_20 : decode b_O_warranty 20 = .ok (.ireturn, 1) := by decide +kernel
theorem d_O_warranty_21 : decode b_O_warranty 21 = .ok (.aload_n 0, 1) := by decide +kernel
theorem d_O_warranty_22 : decode b_O_warranty 22 = .ok (.getfield 54, 3) := by decide +kernel
theorem d_O_warranty_25 : decode b_O_warranty 25 = .ok (.iload_n 1, 1) := by decide +kernel
theorem d_O_warranty_26 : decode b_O_warranty 26 = .ok (.iload_n 2, 1) := by decide +kernel
theorem d_O_warranty_27 : decode b_O_warranty 27 = .ok (.iastore, 1) := by decide +kernel
theorem d_O_warranty_28 : decode b_O_warranty 28 = .ok (.iconst 1, 1) := by decide +kernel
theorem d_O_warranty_29 : decode b_O_warranty 29 = .ok (.ireturn, 1) := by decide +kernel
def w_O_warranty : List Cond := .code y_O_warranty b_O_warranty 3 (some .boolean) :: ([.methodLink "PartShelvesModel" 102 ⟨"PartShelvesModel", "isKind", "(I)Z"⟩, .static ⟨"PartShelvesModel", "isKind", "(I)Z"⟩, .initialized "PartShelvesModel", .code ⟨"PartShelvesModel", "isKind", "(I)Z"⟩ prog_9_method_4_code 1 (some .boolean), .constantLong "PartShelvesModel" 100 1000, .methodLink "PartShelvesModel" 93 ⟨"PartShelvesModel", "isIn", "(JJJ)Z"⟩, .static ⟨"PartShelvesModel", "isIn", "(JJJ)Z"⟩, .code ⟨"PartShelvesModel", "isIn", "(JJJ)Z"⟩ prog_9_method_3_code 6 (some .boolean), .fieldLink "PartShelvesModel" 54 "PartShelvesModel" "warranties" "[I"] ++ u_ws R_O F_O 36)
set_option maxRecDepth 20000 in
theorem g_O_warranty_isKind : GoodIn w_O_warranty (wsS R_O 102 y_O_isKind w_O_isKind) := goodIn_p _ [4] rfl (by decide +kernel)
set_option maxRecDepth 20000 in
theorem g_O_warranty_isIn : GoodIn w_O_warranty (wsS R_O 93 y_O_isIn w_O_isIn) := goodIn_p _ [8] rfl (by decide +kernel)
set_option maxHeartbeats 4000000 in
set_option maxRecDepth 100000 in
theorem c_O_warranty (l : Launch) (D : va_G) (kC : Nat → ClassId) (ad : Nat → Nat) (td : Nat) (rn : Nat) (pn : Nat) (an : Nat) (jn : Nat) (tn : Nat) (bm : Int32) (fw : Int64) (gp : Nat) (ga : Nat) (bp : Int32) (fc : Int64) (fj : Nat) (rA : Nat → Nat) (rC : Nat → Nat) (ft : Nat → Int32) (kd : Nat → Nat) (aG : Nat → Nat) (sR : Nat → Nat) (sT : Nat → Nat) (wh : Nat → Nat) (dY : Nat → Nat) (pd : Nat → Nat) (cN : Nat → Nat) (mN : Nat → Nat) (sv : Nat → Int32) (nd : Nat → Nat) (wr : Nat → Nat) (tl : Nat → Nat) (lt : Nat → Int32) (lT : Nat → Nat) (lD : Nat → Nat) (gv : Nat → Int32) (gn : Nat → Int64) (od : Nat → Nat) (br : Nat → Nat) (x : Int32) (y : Int32) (sz : Nat) : Met l y_O_warranty w_O_warranty ({ frames := 1, cells := 0, slots := 0, locals := 25 } : Room) (gPre cls D (tyL kC) [.ref (ad 0), .int x, .int y] (fl [(wO kC ad td rn pn an jn tn bm fw gp ga bp fc fj rA rC ft kd aG sR sT wh dY pd cN mN sv nd wr tl lt lT lD gv gn od br)]) sz) (gQi cls D (tyL kC) (fl [(wO kC ad td rn pn an jn tn bm fw gp ga bp fc fj rA rC ft kd aG sR sT wh dY pd cN mN sv nd wr tl lt lT lD gv gn od br)]) sz (bI (inR x 6 ∧ inI 0 1000 y)) (fl [(wO kC ad td rn pn an jn tn bm fw gp ga bp fc fj rA rC ft kd aG sR sT wh dY pd cN mN sv nd (if (inR x 6 ∧ inI 0 1000 y) then updN wr (nOf x) (nOf y) else wr) tl lt lT lD gv gn od br)])) 0 0 (va_A (fl [(wO kC ad td rn pn an jn tn bm fw gp ga bp fc fj rA rC ft kd aG sR sT wh dY pd cN mN sv nd wr tl lt lT lD gv gn od br)]) sz) := by
  refine Met.ofW (cc := b_O_warranty) (maxL := 3) (ret := (some .boolean)) (by decide) rfl ?_
  intro p e s m args below meth c s₁ B hml hv
  obtain ⟨rfl, hsz, hP, hK, hD0⟩ := hv
  have hx := B.exec
  have hb := B.bytes
  have hr := B.returns
  have hts := atoms_spec (ws := w_O_warranty) B.pre
  have hown : s.vm.findClass R_O = some m.cls := findClass_of_methodNamed B.named
  have hlocks := B.notSynchronized
  subst hsz
  obtain ⟨A, hAe⟩ : ∃ A : Nat → Prop, A = va_A (fl [(wO kC ad td rn pn an jn tn bm fw gp ga bp fc fj rA rC ft kd aG sR sT wh dY pd cN mN sv nd wr tl lt lT lD gv gn od br)]) s.heap.size := ⟨_, rfl⟩
  have hD : va_D A (fl [(wO kC ad td rn pn an jn tn bm fw gp ga bp fc fj rA rC ft kd aG sR sT wh dY pd cN mN sv nd wr tl lt lT lD gv gn od br)]) := by rw [hAe]; exact hD0.self
  have hA : ∀ q : Nat, s.heap.size ≤ q → A q := fun q h => by rw [hAe]; exact Or.inr h
  have hS : va_S A s.heap s.heap [] := va_S.rf
  have hl := lv_entry ([.ref (ad 0), .int x, .int y]) (n := 3) (Nat.le_of_ble_eq_true rfl)
  rw [lg_entry_eq]
  generalize (lg_sl ([.ref (ad 0), .int x, .int y]) ++ List.replicate (3 - (lg_sl ([.ref (ad 0), .int x, .int y])).length) Slot.unset).toArray = ls at hl ⊢
  have hl : lv_has ls 3 [(0, .ref (ad 0)), (1, .int x), (2, .int y)] := hl
  refine lv_iload_n hx hb d_O_warranty_0 rfl (lv_at hl 1 rfl) ?_
  refine r_calli (W.runS (As := [.int x]) (rest := []) ⟨hx, hb, hml, hown, hts⟩ (c_O_isKind l x) (cwS 1 hts g_O_warranty_isKind rfl rfl rfl (by decide +kernel) ⟨Nat.le_of_ble_eq_true rfl, Nat.le_of_ble_eq_true rfl⟩) p0_preS rfl rfl hl.1 rfl (lv_room (Nat.le_of_ble_eq_true rfl)) d_O_warranty_1 ⟨Nat.le_of_ble_eq_true rfl, Nat.le_of_ble_eq_true rfl⟩) ?_
  refine lv_if_eq (tgt := 19) hx hb d_O_warranty_4 (by decide) (fun h1 => ?_) (fun h1 => ?_)
  · have hC : ¬ (inR x 6 ∧ inI 0 1000 y) := fun q => by first | exact bI_0.mp h2 (inL_i.mpr q.2) | exact bI_0.mp h1 q.1
    refine lv_iconst (v := nI 0) hx hb d_O_warranty_19 (by decide) ?_
    have ew1 : wr = (if (inR x 6 ∧ inI 0 1000 y) then updN wr (nOf x) (nOf y) else wr) := (if_neg hC).symm
    have hP : va_P D cls (fl [(wO kC ad td rn pn an jn tn bm fw gp ga bp fc fj rA rC ft kd aG sR sT wh dY pd cN mN sv nd (if (inR x 6 ∧ inI 0 1000 y) then updN wr (nOf x) (nOf y) else wr) tl lt lT lD gv gn od br)]) s.heap := by rw [← ew1]; exact hP
    have hD : va_D A (fl [(wO kC ad td rn pn an jn tn bm fw gp ga bp fc fj rA rC ft kd aG sR sT wh dY pd cN mN sv nd (if (inR x 6 ∧ inI 0 1000 y) then updN wr (nOf x) (nOf y) else wr) tl lt lT lD gv gn od br)]) := by rw [← ew1]; exact hD
    exact W.zret (v := nI 0) hx hb hr (nar_b (by first | exact Or.inl rfl | exact Or.inr rfl | exact bI_01)) (fun t ht hW => by subst hAe; exact ⟨⟨(nI 0), (), rfl, (bI_f hC).symm, by rw [ht]; exact hP, va_K.moved hW.alike hK, hD⟩, hS.F ht⟩) (by subst hAe; exact hS.2.2) d_O_warranty_20
  · refine lv_iload_n hx hb d_O_warranty_7 rfl (lv_at hl 2 rfl) ?_
    refine lv_i2l hx hb d_O_warranty_8 rfl ?_
    refine lv_lconst (v := lN 0) hx hb d_O_warranty_9 (by decide) ?_
    refine lv_ldc2 (v := 1000) hx hb hown (hts (.constantLong R_O 100 1000) (by decide +kernel)) d_O_warranty_10 ?_
    refine nv_topl (y := lN 1000) (by decide +kernel) ?_
    refine r_calli (W.runS (As := [.long y.toInt64, .long (lN 0), .long (lN 1000)]) (rest := []) ⟨hx, hb, hml, hown, hts⟩ (c_O_isIn l y.toInt64 0 1000 (by decide) (by decide)) (cwS 3 hts g_O_warranty_isIn rfl rfl rfl (by decide +kernel) ⟨Nat.le_of_ble_eq_true rfl, Nat.le_of_ble_eq_true rfl⟩) p0_preS rfl rfl hl.1 rfl (lv_room (Nat.le_of_ble_eq_true rfl)) d_O_warranty_13 ⟨Nat.le_of_ble_eq_true rfl, Nat.le_of_ble_eq_true rfl⟩) ?_
    refine lv_if_ne (tgt := 21) hx hb d_O_warranty_16 (by decide) (fun h2 => ?_) (fun h2 => ?_)
    · have h1 := bI_n0.mp h1
      have h2 := inL_i.mp (bI_n0.mp h2)
      have hC : (inR x 6 ∧ inI 0 1000 y) := ⟨h1, h2⟩
      obtain ⟨j, hj, rfl⟩ := inR_n (by decide) h1
      obtain ⟨k, hk1, hk2, rfl⟩ := inI_n (by decide) h2
      refine lv_aload_n hx hb d_O_warranty_21 rfl (lv_at hl 0 rfl) ?_
      refine fv_get (ci := 7) (v := .ref (ad 15)) (C := R_O) (T := F_O) (N := 36) hx hb hts (by decide +kernel) hown hK hP 0 0 rfl rfl rfl 19 (by decide) (hts (.fieldLink R_O 54 "PartShelvesModel" "warranties" "[I") (by decide +kernel)) (fun _ h9 => h9) rfl d_O_warranty_22 ?_
      refine lv_iload_n hx hb d_O_warranty_25 rfl (lv_at hl 1 rfl) ?_
      refine lv_iload_n hx hb d_O_warranty_26 rfl (lv_at hl 2 rfl) ?_
      refine fa_iastN hx hb hK hP hD hS 0 15 0 rfl rfl rfl (by omega) (by decide) d_O_warranty_27 (fun H locs hP hD hS => ?_)
      have hP : va_P D cls (fl [(wO kC ad td rn pn an jn tn bm fw gp ga bp fc fj rA rC ft kd aG sR sT wh dY pd cN mN sv nd (updN wr j k) tl lt lT lD gv gn od br)]) H := hP
      have hD : va_D A (fl [(wO kC ad td rn pn an jn tn bm fw gp ga bp fc fj rA rC ft kd aG sR sT wh dY pd cN mN sv nd (updN wr j k) tl lt lT lD gv gn od br)]) := hD
      refine lv_iconst (v := nI 1) hx hb d_O_warranty_28 (by decide) ?_
      have ew2 : (updN wr j k) = (if (inR (nI j) 6 ∧ inI 0 1000 (nI k)) then updN wr (nOf (nI j)) (nOf (nI k)) else wr) := by rw [if_pos hC, nOf_nI (by omega), nOf_nI (by omega)]
      have hP : va_P D cls (fl [(wO kC ad td rn pn an jn tn bm fw gp ga bp fc fj rA rC ft kd aG sR sT wh dY pd cN mN sv nd (if (inR (nI j) 6 ∧ inI 0 1000 (nI k)) then updN wr (nOf (nI j)) (nOf (nI k)) else wr) tl lt lT lD gv gn od br)]) H := by rw [← ew2]; exact hP
      have hD : va_D A (fl [(wO kC ad td rn pn an jn tn bm fw gp ga bp fc fj rA rC ft kd aG sR sT wh dY pd cN mN sv nd (if (inR (nI j) 6 ∧ inI 0 1000 (nI k)) then updN wr (nOf (nI j)) (nOf (nI k)) else wr) tl lt lT lD gv gn od br)]) := by rw [← ew2]; exact hD
      exact W.zret (v := nI 1) hx hb hr (nar_b (by first | exact Or.inl rfl | exact Or.inr rfl | exact bI_01)) (fun t ht hW => by subst hAe; exact ⟨⟨(nI 1), (), rfl, (bI_t hC).symm, by rw [ht]; exact hP, va_K.moved hW.alike hK, hD⟩, hS.F ht⟩) (by subst hAe; exact hS.2.2) d_O_warranty_29
    · have hC : ¬ (inR x 6 ∧ inI 0 1000 y) := fun q => by first | exact bI_0.mp h2 (inL_i.mpr q.2) | exact bI_0.mp h1 q.1
      refine lv_iconst (v := nI 0) hx hb d_O_warranty_19 (by decide) ?_
      have ew3 : wr = (if (inR x 6 ∧ inI 0 1000 y) then updN wr (nOf x) (nOf y) else wr) := (if_neg hC).symm
      have hP : va_P D cls (fl [(wO kC ad td rn pn an jn tn bm fw gp ga bp fc fj rA rC ft kd aG sR sT wh dY pd cN mN sv nd (if (inR x 6 ∧ inI 0 1000 y) then updN wr (nOf x) (nOf y) else wr) tl lt lT lD gv gn od br)]) s.heap := by rw [← ew3]; exact hP
      have hD : va_D A (fl [(wO kC ad td rn pn an jn tn bm fw gp ga bp fc fj rA rC ft kd aG sR sT wh dY pd cN mN sv nd (if (inR x 6 ∧ inI 0 1000 y) then updN wr (nOf x) (nOf y) else wr) tl lt lT lD gv gn od br)]) := by rw [← ew3]; exact hD
      exact W.zret (v := nI 0) hx hb hr (nar_b (by first | exact Or.inl rfl | exact Or.inr rfl | exact bI_01)) (fun t ht hW => by subst hAe; exact ⟨⟨(nI 0), (), rfl, (bI_f hC).symm, by rw [ht]; exact hP, va_K.moved hW.alike hK, hD⟩, hS.F ht⟩) (by subst hAe; exact hS.2.2) d_O_warranty_20

abbrev b_O_returned : ByteArray := prog_9_method_36_code
def y_O_returned : MethodName := ⟨"PartShelvesModel", "returned", "(I)Z"⟩
theorem d_O_returned_0 : decode b_O_returned 0 = .ok (.aload_n 0, 1) := by decide +kernel
theorem d_O_returned_1 : decode b_O_returned 1 = .ok (.iload_n 1, 1) := by decide +kernel
theorem d_O_returned_2 : decode b_O_returned 2 = .ok (.invokevirtual 108, 3) := by decide +kernel
theorem d_O_returned_5 : decode b_O_returned 5 = .ok (.ifCond .eq 38, 3) := by decide +kernel
theorem d_O_returned_8 : decode b_O_returned 8 = .ok (.aload_n 0, 1) := by decide +kernel
theorem d_O_returned_9 : decode b_O_returned 9 = .ok (.getfield 30, 3) := by decide +kernel
theorem d_O_returned_12 : decode b_O_returned 12 = .ok (.iload_n 1, 1) := by decide +kernel
theorem d_O_returned_13 : decode b_O_returned 13 = .ok (.iaload, 1) := by decide +kernel
theorem d_O_returned_14 : decode b_O_returned 14 = .ok (.iconst 2, 1) := by decide +kernel
theorem d_O_returned_15 : decode b_O_returned 15 = .ok (.if_icmp .ne 28, 3) := by decide +kernel
theorem d_O_returned_18 : decode b_O_returned 18 = .ok (.aload_n 0, 1) := by decide +kernel
theorem d_O_returned_19 : decode b_O_returned 19 = .ok (.getfield 88, 3) := by decide +kernel
theorem d_O_returned_22 : decode b_O_returned 22 = .ok (.aload_n 0, 1) := by decide +kernel
theorem d_O_returned_23 : decode b_O_returned 23 = .ok (.getfield 36, 3) := by decide +kernel
theorem d_O_returned_26 : decode b_O_returned 26 = .ok (.iload_n 1, 1) := by decide +kernel
theorem d_O_returned_27 : decode b_O_returned 27 = .ok (.iaload, 1) := by decide +kernel
theorem d_O_returned_28 : decode b_O_returned 28 = .ok (.isub, 1) := by decide +kernel
theorem d_O_returned_29 : decode b_O_returned 29 = .ok (.aload_n 0, 1) := by decide +kernel
theorem d_O_returned_30 : decode b_O_returned 30 = .ok (.getfield 54, 3) := by decide +kernel
theorem d_O_returned_33 : decode b_O_returned 33 = .ok (.aload_n 0, 1) := by decide +kernel
theorem d_O_returned_34 : decode b_O_returned 34 = .ok (.getfield 21, 3) := by decide +kernel
theorem d_O_returned_37 : decode b_O_returned 37 = .ok (.iload_n 1, 1) := by decide +kernel
theorem d_O_returned_38 : decode b_O_returned 38 = .ok (.iaload, 1) := by decide +kernel
theorem d_O_returned_39 : decode b_O_returned 39 = .ok (.iaload, 1) := by decide +kernel
theorem d_O_returned_40 : decode b_O_returned 40 = .ok (.if_icmp .le 5, 3) := by decide +kernel
theorem d_O_returned_43 : decode b_O_returned 43 = .ok (.iconst 0, 1) := by decide +kernel
theorem d_O_returned_44 : decode b_O_returned 44 = .ok (.ireturn, 1) := by decide +kernel
theorem d_O_returned_45 : decode b_O_returned 45 = .ok (.aload_n 0, 1) := by decide +kernel
theorem d_O_returned_46 : decode b_O_returned 46 = .ok (.getfield 30, 3) := by decide +kernel
theorem d_O_returned_49 : decode b_O_returned 49 = .ok (.iload_n 1, 1) := by decide +kernel
theorem d_O_returned_50 : decode b_O_returned 50 = .ok (.iconst 0, 1) := by decide +kernel
theorem d_O_returned_51 : decode b_O_returned 51 = .ok (.iastore, 1) := by decide +kernel
theorem d_O_returned_52 : decode b_O_returned 52 = .ok (.iconst 1, 1) := by decide +kernel
theorem d_O_returned_53 : decode b_O_returned 53 = .ok (.ireturn, 1) := by decide +kernel
def w_O_returned : List Cond := .code y_O_returned b_O_returned 2 (some .boolean) :: ([.methodLink "PartShelvesModel" 108 ⟨"PartShelvesModel", "isPart", "(I)Z"⟩, .instanceMethod ⟨"PartShelvesModel", "isPart", "(I)Z"⟩, .selects "PartShelvesModel" ⟨"PartShelvesModel", "isPart", "(I)Z"⟩ ⟨"PartShelvesModel", "isPart", "(I)Z"⟩, .initialized "PartShelvesModel", .code ⟨"PartShelvesModel", "isPart", "(I)Z"⟩ prog_9_method_6_code 2 (some .boolean), .fieldLink "PartShelvesModel" 81 "PartShelvesModel" "parts" "I", .fieldLink "PartShelvesModel" 30 "PartShelvesModel" "states" "[I", .fieldLink "PartShelvesModel" 88 "PartShelvesModel" "today" "I", .fieldLink "PartShelvesModel" 36 "PartShelvesModel" "days" "[I", .fieldLink "PartShelvesModel" 54 "PartShelvesModel" "warranties" "[I", .fieldLink "PartShelvesModel" 21 "PartShelvesModel" "kinds" "[I"] ++ u_ws R_O F_O 36)
set_option maxRecDepth 20000 in
theorem g_O_returned_isPart : GoodIn w_O_returned (wsV R_O 108 R_O y_O_isPart w_O_isPart) := goodIn_p _ [5] rfl (by decide +kernel)
set_option maxHeartbeats 4000000 in
set_option maxRecDepth 100000 in
theorem c_O_returned (l : Launch) (D : va_G) (kC : Nat → ClassId) (ad : Nat → Nat) (td : Nat) (rn : Nat) (pn : Nat) (an : Nat) (jn : Nat) (tn : Nat) (bm : Int32) (fw : Int64) (gp : Nat) (ga : Nat) (bp : Int32) (fc : Int64) (fj : Nat) (rA : Nat → Nat) (rC : Nat → Nat) (ft : Nat → Int32) (kd : Nat → Nat) (aG : Nat → Nat) (sR : Nat → Nat) (sT : Nat → Nat) (wh : Nat → Nat) (dY : Nat → Nat) (pd : Nat → Nat) (cN : Nat → Nat) (mN : Nat → Nat) (sv : Nat → Int32) (nd : Nat → Nat) (wr : Nat → Nat) (tl : Nat → Nat) (lt : Nat → Int32) (lT : Nat → Nat) (lD : Nat → Nat) (gv : Nat → Int32) (gn : Nat → Int64) (od : Nat → Nat) (br : Nat → Nat) (x : Int32) (sz : Nat) (hpn : pn ≤ 8) (hsold : ∀ j, sT j = 2 → dY j ≤ td) (hkd : ∀ j, kd j < 6) (hwr : ∀ j, wr j ≤ 1000) (hsT : ∀ j, sT j ≤ 3) (hdY : ∀ j, dY j ≤ 100000) (htd : td ≤ 100000) : Met l y_O_returned w_O_returned ({ frames := 1, cells := 0, slots := 0, locals := 25 } : Room) (gPre cls D (tyL kC) [.ref (ad 0), .int x] (fl [(wO kC ad td rn pn an jn tn bm fw gp ga bp fc fj rA rC ft kd aG sR sT wh dY pd cN mN sv nd wr tl lt lT lD gv gn od br)]) sz) (gQi cls D (tyL kC) (fl [(wO kC ad td rn pn an jn tn bm fw gp ga bp fc fj rA rC ft kd aG sR sT wh dY pd cN mN sv nd wr tl lt lT lD gv gn od br)]) sz (bI (inR x pn ∧ sT (nOf x) = 2 ∧ td - dY (nOf x) ≤ wr (kd (nOf x)))) (fl [(wO kC ad td rn pn an jn tn bm fw gp ga bp fc fj rA rC ft kd aG sR (if (inR x pn ∧ sT (nOf x) = 2 ∧ td - dY (nOf x) ≤ wr (kd (nOf x))) then updN sT (nOf x) 0 else sT) wh dY pd cN mN sv nd wr tl lt lT lD gv gn od br)])) 0 0 (va_A (fl [(wO kC ad td rn pn an jn tn bm fw gp ga bp fc fj rA rC ft kd aG sR sT wh dY pd cN mN sv nd wr tl lt lT lD gv gn od br)]) sz) := by
  refine Met.ofW (cc := b_O_returned) (maxL := 2) (ret := (some .boolean)) (by decide) rfl ?_
  intro p e s m args below meth c s₁ B hml hv
  obtain ⟨rfl, hsz, hP, hK, hD0⟩ := hv
  have hx := B.exec
  have hb := B.bytes
  have hr := B.returns
  have hts := atoms_spec (ws := w_O_returned) B.pre
  have hown : s.vm.findClass R_O = some m.cls := findClass_of_methodNamed B.named
  have hlocks := B.notSynchronized
  subst hsz
  obtain ⟨A, hAe⟩ : ∃ A : Nat → Prop, A = va_A (fl [(wO kC ad td rn pn an jn tn bm fw gp ga bp fc fj rA rC ft kd aG sR sT wh dY pd cN mN sv nd wr tl lt lT lD gv gn od br)]) s.heap.size := ⟨_, rfl⟩
  have hD : va_D A (fl [(wO kC ad td rn pn an jn tn bm fw gp ga bp fc fj rA rC ft kd aG sR sT wh dY pd cN mN sv nd wr tl lt lT lD gv gn od br)]) := by rw [hAe]; exact hD0.self
  have hA : ∀ q : Nat, s.heap.size ≤ q → A q := fun q h => by rw [hAe]; exact Or.inr h
  have hS : va_S A s.heap s.heap [] := va_S.rf
  have hl := lv_entry ([.ref (ad 0), .int x]) (n := 2) (Nat.le_of_ble_eq_true rfl)
  rw [lg_entry_eq]
  generalize (lg_sl ([.ref (ad 0), .int x]) ++ List.replicate (2 - (lg_sl ([.ref (ad 0), .int x])).length) Slot.unset).toArray = ls at hl ⊢
  have hl : lv_has ls 2 [(0, .ref (ad 0)), (1, .int x)] := hl
  refine lv_aload_n hx hb d_O_returned_0 rfl (lv_at hl 0 rfl) ?_
  refine lv_iload_n hx hb d_O_returned_1 rfl (lv_at hl 1 rfl) ?_
  refine r_calli (W.runV (As := [.int x]) (rest := []) ⟨hx, hb, hml, hown, hts⟩ (c_O_isPart l D kC ad td rn pn an jn tn bm fw gp ga bp fc fj rA rC ft kd aG sR sT wh dY pd cN mN sv nd wr tl lt lT lD gv gn od br x (hpn)) (cwV 1 hts g_O_returned_isPart rfl rfl rfl (by decide +kernel) ⟨Nat.le_of_ble_eq_true rfl, Nat.le_of_ble_eq_true rfl⟩) (r_preV (f_recv (ci := 7) (q0 := 0) hK hP 0 rfl rfl rfl) hK hP) rfl rfl hl.1 rfl (lv_room (Nat.le_of_ble_eq_true rfl)) d_O_returned_2 ⟨Nat.le_of_ble_eq_true rfl, Nat.le_of_ble_eq_true rfl⟩) ?_
  refine lv_if_eq (tgt := 43) hx hb d_O_returned_5 (by decide) (fun h1 => ?_) (fun h1 => ?_)
  · have hC : ¬ (inR x pn ∧ sT (nOf x) = 2 ∧ td - dY (nOf x) ≤ wr (kd (nOf x))) := fun q => by first | (have q3 := q.2.2; rw [nOf_nI (by omega)] at q3; omega) | (have q2 := q.2.1; rw [nOf_nI (by omega)] at q2; exact h2 q2) | exact bI_0.mp h1 q.1
    refine lv_iconst (v := nI 0) hx hb d_O_returned_43 (by decide) ?_
    have ew1 : sT = (if (inR x pn ∧ sT (nOf x) = 2 ∧ td - dY (nOf x) ≤ wr (kd (nOf x))) then updN sT (nOf x) 0 else sT) := (if_neg hC).symm
    have hP : va_P D cls (fl [(wO kC ad td rn pn an jn tn bm fw gp ga bp fc fj rA rC ft kd aG sR (if (inR x pn ∧ sT (nOf x) = 2 ∧ td - dY (nOf x) ≤ wr (kd (nOf x))) then updN sT (nOf x) 0 else sT) wh dY pd cN mN sv nd wr tl lt lT lD gv gn od br)]) s.heap := by rw [← ew1]; exact hP
    have hD : va_D A (fl [(wO kC ad td rn pn an jn tn bm fw gp ga bp fc fj rA rC ft kd aG sR (if (inR x pn ∧ sT (nOf x) = 2 ∧ td - dY (nOf x) ≤ wr (kd (nOf x))) then updN sT (nOf x) 0 else sT) wh dY pd cN mN sv nd wr tl lt lT lD gv gn od br)]) := by rw [← ew1]; exact hD
    exact W.zret (v := nI 0) hx hb hr (nar_b (by first | exact Or.inl rfl | exact Or.inr rfl | exact bI_01)) (fun t ht hW => by subst hAe; exact ⟨⟨(nI 0), (), rfl, (bI_f hC).symm, by rw [ht]; exact hP, va_K.moved hW.alike hK, hD⟩, hS.F ht⟩) (by subst hAe; exact hS.2.2) d_O_returned_44
  · have h1 := bI_n0.mp h1
    obtain ⟨j, hj, rfl⟩ := inR_n (by omega) h1
    refine lv_aload_n hx hb d_O_returned_8 rfl (lv_at hl 0 rfl) ?_
    refine fv_get (ci := 7) (v := .ref (ad 7)) (C := R_O) (T := F_O) (N := 36) hx hb hts (by decide +kernel) hown hK hP 0 0 rfl rfl rfl 9 (by decide) (hts (.fieldLink R_O 30 "PartShelvesModel" "states" "[I") (by decide +kernel)) (fun _ h9 => h9) rfl d_O_returned_9 ?_
    refine lv_iload_n hx hb d_O_returned_12 rfl (lv_at hl 1 rfl) ?_
    refine fa_ialdN hx hb hK hP 0 7 0 rfl rfl rfl (by omega) (by decide) d_O_returned_13 ?_
    refine lv_iconst (v := nI 2) hx hb d_O_returned_14 (by decide) ?_
    refine nv_icmp_ne (tgt := 43) hx hb d_O_returned_15 (by decide) (by have := hsT j; omega) (by omega) (fun h2 => ?_) (fun h2 => ?_)
    · have hC : ¬ (inR (nI j) pn ∧ sT (nOf (nI j)) = 2 ∧ td - dY (nOf (nI j)) ≤ wr (kd (nOf (nI j)))) := fun q => by first | (have q3 := q.2.2; rw [nOf_nI (by omega)] at q3; omega) | (have q2 := q.2.1; rw [nOf_nI (by omega)] at q2; exact h2 q2) | exact bI_0.mp h1 q.1
      refine lv_iconst (v := nI 0) hx hb d_O_returned_43 (by decide) ?_
      have ew2 : sT = (if (inR (nI j) pn ∧ sT (nOf (nI j)) = 2 ∧ td - dY (nOf (nI j)) ≤ wr (kd (nOf (nI j)))) then updN sT (nOf (nI j)) 0 else sT) := (if_neg hC).symm
      have hP : va_P D cls (fl [(wO kC ad td rn pn an jn tn bm fw gp ga bp fc fj rA rC ft kd aG sR (if (inR (nI j) pn ∧ sT (nOf (nI j)) = 2 ∧ td - dY (nOf (nI j)) ≤ wr (kd (nOf (nI j)))) then updN sT (nOf (nI j)) 0 else sT) wh dY pd cN mN sv nd wr tl lt lT lD gv gn od br)]) s.heap := by rw [← ew2]; exact hP
      have hD : va_D A (fl [(wO kC ad td rn pn an jn tn bm fw gp ga bp fc fj rA rC ft kd aG sR (if (inR (nI j) pn ∧ sT (nOf (nI j)) = 2 ∧ td - dY (nOf (nI j)) ≤ wr (kd (nOf (nI j)))) then updN sT (nOf (nI j)) 0 else sT) wh dY pd cN mN sv nd wr tl lt lT lD gv gn od br)]) := by rw [← ew2]; exact hD
      exact W.zret (v := nI 0) hx hb hr (nar_b (by first | exact Or.inl rfl | exact Or.inr rfl | exact bI_01)) (fun t ht hW => by subst hAe; exact ⟨⟨(nI 0), (), rfl, (bI_f hC).symm, by rw [ht]; exact hP, va_K.moved hW.alike hK, hD⟩, hS.F ht⟩) (by subst hAe; exact hS.2.2) d_O_returned_44
    · refine lv_aload_n hx hb d_O_returned_18 rfl (lv_at hl 0 rfl) ?_
      refine fv_get (ci := 7) (v := .int (nI td)) (C := R_O) (T := F_O) (N := 36) hx hb hts (by decide +kernel) hown hK hP 0 0 rfl rfl rfl 0 (by decide) (hts (.fieldLink R_O 88 "PartShelvesModel" "today" "I") (by decide +kernel)) (fun _ h9 => h9) rfl d_O_returned_19 ?_
      refine lv_aload_n hx hb d_O_returned_22 rfl (lv_at hl 0 rfl) ?_
      refine fv_get (ci := 7) (v := .ref (ad 9)) (C := R_O) (T := F_O) (N := 36) hx hb hts (by decide +kernel) hown hK hP 0 0 rfl rfl rfl 11 (by decide) (hts (.fieldLink R_O 36 "PartShelvesModel" "days" "[I") (by decide +kernel)) (fun _ h9 => h9) rfl d_O_returned_23 ?_
      refine lv_iload_n hx hb d_O_returned_26 rfl (lv_at hl 1 rfl) ?_
      refine fa_ialdN hx hb hK hP 0 9 0 rfl rfl rfl (by omega) (by decide) d_O_returned_27 ?_
      refine nv_isub hx hb d_O_returned_28 (hsold j h2) ?_
      refine lv_aload_n hx hb d_O_returned_29 rfl (lv_at hl 0 rfl) ?_
      refine fv_get (ci := 7) (v := .ref (ad 15)) (C := R_O) (T := F_O) (N := 36) hx hb hts (by decide +kernel) hown hK hP 0 0 rfl rfl rfl 19 (by decide) (hts (.fieldLink R_O 54 "PartShelvesModel" "warranties" "[I") (by decide +kernel)) (fun _ h9 => h9) rfl d_O_returned_30 ?_
      refine lv_aload_n hx hb d_O_returned_33 rfl (lv_at hl 0 rfl) ?_
      refine fv_get (ci := 7) (v := .ref (ad 4)) (C := R_O) (T := F_O) (N := 36) hx hb hts (by decide +kernel) hown hK hP 0 0 rfl rfl rfl 6 (by decide) (hts (.fieldLink R_O 21 "PartShelvesModel" "kinds" "[I") (by decide +kernel)) (fun _ h9 => h9) rfl d_O_returned_34 ?_
      refine lv_iload_n hx hb d_O_returned_37 rfl (lv_at hl 1 rfl) ?_
      refine fa_ialdN hx hb hK hP 0 4 0 rfl rfl rfl (by omega) (by decide) d_O_returned_38 ?_
      refine fa_ialdN hx hb hK hP 0 15 0 rfl rfl rfl (hkd j) (by decide) d_O_returned_39 ?_
      refine nv_icmp_le (tgt := 45) hx hb d_O_returned_40 (by decide) (by omega) (by have := hwr (kd j); omega) (fun h3 => ?_) (fun h3 => ?_)
      · have hC : (inR (nI j) pn ∧ sT (nOf (nI j)) = 2 ∧ td - dY (nOf (nI j)) ≤ wr (kd (nOf (nI j)))) := ⟨h1, by rw [nOf_nI (by omega)]; exact h2, by rw [nOf_nI (by omega)]; exact h3⟩
        refine lv_aload_n hx hb d_O_returned_45 rfl (lv_at hl 0 rfl) ?_
        refine fv_get (ci := 7) (v := .ref (ad 7)) (C := R_O) (T := F_O) (N := 36) hx hb hts (by decide +kernel) hown hK hP 0 0 rfl rfl rfl 9 (by decide) (hts (.fieldLink R_O 30 "PartShelvesModel" "states" "[I") (by decide +kernel)) (fun _ h9 => h9) rfl d_O_returned_46 ?_
        refine lv_iload_n hx hb d_O_returned_49 rfl (lv_at hl 1 rfl) ?_
        refine lv_iconst (v := nI 0) hx hb d_O_returned_50 (by decide) ?_
        refine fa_iastN hx hb hK hP hD hS 0 7 0 rfl rfl rfl (by omega) (by decide) d_O_returned_51 (fun H locs hP hD hS => ?_)
        have hP : va_P D cls (fl [(wO kC ad td rn pn an jn tn bm fw gp ga bp fc fj rA rC ft kd aG sR (updN sT j 0) wh dY pd cN mN sv nd wr tl lt lT lD gv gn od br)]) H := hP
        have hD : va_D A (fl [(wO kC ad td rn pn an jn tn bm fw gp ga bp fc fj rA rC ft kd aG sR (updN sT j 0) wh dY pd cN mN sv nd wr tl lt lT lD gv gn od br)]) := hD
        refine lv_iconst (v := nI 1) hx hb d_O_returned_52 (by decide) ?_
        have ew3 : (updN sT j 0) = (if (inR (nI j) pn ∧ sT (nOf (nI j)) = 2 ∧ td - dY (nOf (nI j)) ≤ wr (kd (nOf (nI j)))) then updN sT (nOf (nI j)) 0 else sT) := by rw [if_pos hC, nOf_nI (by omega)]
        have hP : va_P D cls (fl [(wO kC ad td rn pn an jn tn bm fw gp ga bp fc fj rA rC ft kd aG sR (if (inR (nI j) pn ∧ sT (nOf (nI j)) = 2 ∧ td - dY (nOf (nI j)) ≤ wr (kd (nOf (nI j)))) then updN sT (nOf (nI j)) 0 else sT) wh dY pd cN mN sv nd wr tl lt lT lD gv gn od br)]) H := by rw [← ew3]; exact hP
        have hD : va_D A (fl [(wO kC ad td rn pn an jn tn bm fw gp ga bp fc fj rA rC ft kd aG sR (if (inR (nI j) pn ∧ sT (nOf (nI j)) = 2 ∧ td - dY (nOf (nI j)) ≤ wr (kd (nOf (nI j)))) then updN sT (nOf (nI j)) 0 else sT) wh dY pd cN mN sv nd wr tl lt lT lD gv gn od br)]) := by rw [← ew3]; exact hD
        exact W.zret (v := nI 1) hx hb hr (nar_b (by first | exact Or.inl rfl | exact Or.inr rfl | exact bI_01)) (fun t ht hW => by subst hAe; exact ⟨⟨(nI 1), (), rfl, (bI_t hC).symm, by rw [ht]; exact hP, va_K.moved hW.alike hK, hD⟩, hS.F ht⟩) (by subst hAe; exact hS.2.2) d_O_returned_53
      · have hC : ¬ (inR (nI j) pn ∧ sT (nOf (nI j)) = 2 ∧ td - dY (nOf (nI j)) ≤ wr (kd (nOf (nI j)))) := fun q => by first | (have q3 := q.2.2; rw [nOf_nI (by omega)] at q3; omega) | (have q2 := q.2.1; rw [nOf_nI (by omega)] at q2; exact h2 q2) | exact bI_0.mp h1 q.1
        refine lv_iconst (v := nI 0) hx hb d_O_returned_43 (by decide) ?_
        have ew4 : sT = (if (inR (nI j) pn ∧ sT (nOf (nI j)) = 2 ∧ td - dY (nOf (nI j)) ≤ wr (kd (nOf (nI j)))) then updN sT (nOf (nI j)) 0 else sT) := (if_neg hC).symm
        have hP : va_P D cls (fl [(wO kC ad td rn pn an jn tn bm fw gp ga bp fc fj rA rC ft kd aG sR (if (inR (nI j) pn ∧ sT (nOf (nI j)) = 2 ∧ td - dY (nOf (nI j)) ≤ wr (kd (nOf (nI j)))) then updN sT (nOf (nI j)) 0 else sT) wh dY pd cN mN sv nd wr tl lt lT lD gv gn od br)]) s.heap := by rw [← ew4]; exact hP
        have hD : va_D A (fl [(wO kC ad td rn pn an jn tn bm fw gp ga bp fc fj rA rC ft kd aG sR (if (inR (nI j) pn ∧ sT (nOf (nI j)) = 2 ∧ td - dY (nOf (nI j)) ≤ wr (kd (nOf (nI j)))) then updN sT (nOf (nI j)) 0 else sT) wh dY pd cN mN sv nd wr tl lt lT lD gv gn od br)]) := by rw [← ew4]; exact hD
        exact W.zret (v := nI 0) hx hb hr (nar_b (by first | exact Or.inl rfl | exact Or.inr rfl | exact bI_01)) (fun t ht hW => by subst hAe; exact ⟨⟨(nI 0), (), rfl, (bI_f hC).symm, by rw [ht]; exact hP, va_K.moved hW.alike hK, hD⟩, hS.F ht⟩) (by subst hAe; exact hS.2.2) d_O_returned_44

abbrev b_O_recalled : ByteArray := prog_9_method_38_code
def y_O_recalled : MethodName := ⟨"PartShelvesModel", "recalled", "(I)I"⟩
theorem d_O_recalled_0 : decode b_O_recalled 0 = .ok (.iload_n 1, 1) := by decide +kernel
theorem d_O_recalled_1 : decode b_O_recalled 1 = .ok (.ifCond .lt 20, 3) := by decide +kernel
theorem d_O_recalled_4 : decode b_O_recalled 4 = .ok (.iload_n 1, 1) := by decide +kernel
theorem d_O_recalled_5 : decode b_O_recalled 5 = .ok (.aload_n 0, 1) := by decide +kernel
theorem d_O_recalled_6 : decode b_O_recalled 6 = .ok (.getfield 183, 3) := by decide +kernel
theorem d_O_recalled_9 : decode b_O_recalled 9 = .ok (.if_icmp .ge 12, 3) := by decide +kernel
theorem d_O_recalled_12 : decode b_O_recalled 12 = .ok (.aload_n 0, 1) := by decide +kernel
theorem d_O_recalled_13 : decode b_O_recalled 13 = .ok (.getfield 57, 3) := by decide +kernel
theorem d_O_recalled_16 : decode b_O_recalled 16 = .ok (.iload_n 1, 1) := by decide +kernel
theorem d_O_recalled_17 : decode b_O_recalled 17 = .ok (.iaload, 1) := by decide +kernel
theorem d_O_recalled_18 : decode b_O_recalled 18 = .ok (.goto 4, 3) := by decide +kernel
theorem d_O_recalled_21 : decode b_O_recalled 21 = .ok (.iconst (-1), 1) := by decide +kernel
theorem d_O_recalled_22 : decode b_O_recalled 22 = .ok (.ireturn, 1) := by decide +kernel
def w_O_recalled : List Cond := .code y_O_recalled b_O_recalled 2 (some .int) :: ([.fieldLink "PartShelvesModel" 183 "PartShelvesModel" "tellCount" "I", .fieldLink "PartShelvesModel" 57 "PartShelvesModel" "tells" "[I"] ++ u_ws R_O F_O 36)
set_option maxHeartbeats 4000000 in
set_option maxRecDepth 100000 in
theorem c_O_recalled (l : Launch) (D : va_G) (kC : Nat → ClassId) (ad : Nat → Nat) (td : Nat) (rn : Nat) (pn : Nat) (an : Nat) (jn : Nat) (tn : Nat) (bm : Int32) (fw : Int64) (gp : Nat) (ga : Nat) (bp : Int32) (fc : Int64) (fj : Nat) (rA : Nat → Nat) (rC : Nat → Nat) (ft : Nat → Int32) (kd : Nat → Nat) (aG : Nat → Nat) (sR : Nat → Nat) (sT : Nat → Nat) (wh : Nat → Nat) (dY : Nat → Nat) (pd : Nat → Nat) (cN : Nat → Nat) (mN : Nat → Nat) (sv : Nat → Int32) (nd : Nat → Nat) (wr : Nat → Nat) (tl : Nat → Nat) (lt : Nat → Int32) (lT : Nat → Nat) (lD : Nat → Nat) (gv : Nat → Int32) (gn : Nat → Int64) (od : Nat → Nat) (br : Nat → Nat) (x : Int32) (htn : tn ≤ 8) : Met l y_O_recalled w_O_recalled ({ frames := 0, cells := 0, slots := 0, locals := 0 } : Room) (gPr cls D (tyL kC) [.ref (ad 0), .int x] (fl [(wO kC ad td rn pn an jn tn bm fw gp ga bp fc fj rA rC ft kd aG sR sT wh dY pd cN mN sv nd wr tl lt lT lD gv gn od br)])) (vp_Si (fun r => r = atR (fun j => nI (tl j)) (-1) x tn)) 0 0 (fun _ => False) := by
  refine Met.ofW (cc := b_O_recalled) (maxL := 2) (ret := (some .int)) (by decide) rfl ?_
  intro p e s m args below meth c s₁ B hml hv
  obtain ⟨rfl, hP, hK⟩ := hv
  have hx := B.exec
  have hb := B.bytes
  have hr := B.returns
  have hts := atoms_spec (ws := w_O_recalled) B.pre
  have hown : s.vm.findClass R_O = some m.cls := findClass_of_methodNamed B.named
  have hlocks := B.notSynchronized
  have hl := lv_entry ([.ref (ad 0), .int x]) (n := 2) (Nat.le_of_ble_eq_true rfl)
  rw [lg_entry_eq]
  generalize (lg_sl ([.ref (ad 0), .int x]) ++ List.replicate (2 - (lg_sl ([.ref (ad 0), .int x])).length) Slot.unset).toArray = ls at hl ⊢
  have hl : lv_has ls 2 [(0, .ref (ad 0)), (1, .int x)] := hl
  refine lv_iload_n hx hb d_O_recalled_0 rfl (lv_at hl 1 rfl) ?_
  refine lv_if_lt (tgt := 21) hx hb d_O_recalled_1 (by decide) (fun h0 => ?_) (fun h0 => ?_)
  · refine lv_iconst (v := (-1)) hx hb d_O_recalled_21 (by decide) ?_
    exact W.iret (v := (-1)) hx hb hr (fun t ht hW => ⟨_, rfl, (atR_no (by first | exact inR_ge (by omega) h1 | exact inR_lt h0)).symm, ht⟩) t_nil d_O_recalled_22
  · refine lv_iload_n hx hb d_O_recalled_4 rfl (lv_at hl 1 rfl) ?_
    refine lv_aload_n hx hb d_O_recalled_5 rfl (lv_at hl 0 rfl) ?_
    refine fv_get (ci := 7) (v := .int (nI tn)) (C := R_O) (T := F_O) (N := 36) hx hb hts (by decide +kernel) hown hK hP 0 0 rfl rfl rfl 20 (by decide) (hts (.fieldLink R_O 183 "PartShelvesModel" "tellCount" "I") (by decide +kernel)) (fun _ h9 => h9) rfl d_O_recalled_6 ?_
    refine lv_icmp_ge (tgt := 21) hx hb d_O_recalled_9 (by decide) (fun h1 => ?_) (fun h1 => ?_)
    · refine lv_iconst (v := (-1)) hx hb d_O_recalled_21 (by decide) ?_
      exact W.iret (v := (-1)) hx hb hr (fun t ht hW => ⟨_, rfl, (atR_no (by first | exact inR_ge (by omega) h1 | exact inR_lt h0)).symm, ht⟩) t_nil d_O_recalled_22
    · obtain ⟨j, hj, rfl⟩ := in_of (by omega) h0 h1
      refine lv_aload_n hx hb d_O_recalled_12 rfl (lv_at hl 0 rfl) ?_
      refine fv_get (ci := 7) (v := .ref (ad 16)) (C := R_O) (T := F_O) (N := 36) hx hb hts (by decide +kernel) hown hK hP 0 0 rfl rfl rfl 21 (by decide) (hts (.fieldLink R_O 57 "PartShelvesModel" "tells" "[I") (by decide +kernel)) (fun _ h9 => h9) rfl d_O_recalled_13 ?_
      refine lv_iload_n hx hb d_O_recalled_16 rfl (lv_at hl 1 rfl) ?_
      refine fa_ialdN hx hb hK hP 0 16 0 rfl rfl rfl (by omega) (by decide) d_O_recalled_17 ?_
      refine lv_goto (tgt := 22) hx hb d_O_recalled_18 (by decide) ?_
      exact W.iret (v := nI (tl j)) hx hb hr (fun t ht hW => ⟨_, rfl, (atR_nI (f := fun j => nI (tl j)) hj (by omega)).symm, ht⟩) t_nil d_O_recalled_22
end
section
abbrev b_O_lend : ByteArray := prog_9_method_39_code
def y_O_lend : MethodName := ⟨"PartShelvesModel", "lend", "(III)Z"⟩
theorem d_O_lend_0 : decode b_O_lend 0 = .ok (.iload_n 1, 1) := by decide +kernel
theorem d_O_lend_1 : decode b_O_lend 1 = .ok (.ifCond .lt 40, 3) := by decide +kernel
theorem d_O_lend_4 : decode b_O_lend 4 = .ok (.iload_n 1, 1) := by decide +kernel
theorem d_O_lend_5 : decode b_O_lend 5 = .ok (.iconst 4, 1) := by decide +kernel
theorem d_O_lend_6 : decode b_O_lend 6 = .ok (.if_icmp .ge 35, 3) := by decide +kernel
theorem d_O_lend_9 : decode b_O_lend 9 = .ok (.iload_n 2, 1) := by decide +kernel
theorem d_O_lend_10 : decode b_O_lend 10 = .ok (.invokestatic 156, 3) := by decide +kernel
theorem d_O_lend_13 : decode b_O_lend 13 = .ok (.ifCond .eq 28, 3) := by decide +kernel
theorem d_O_lend_16 : decode b_O_lend 16 = .ok (.aload_n 0, 1) := by decide +kernel
theorem d_O_lend_17 : decode b_O_lend 17 = .ok (.getfield 60, 3) := by decide +kernel
theorem d_O_lend_20 : decode b_O_lend 20 = .ok (.iload_n 1, 1) := by decide +kernel
theorem d_O_lend_21 : decode b_O_lend 21 = .ok (.baload, 1) := by decide +kernel
theorem d_O_lend_22 : decode b_O_lend 22 = .ok (.ifCond .ne 19, 3) := by decide +kernel
theorem d_O_lend_25 : decode b_O_lend 25 = .ok (.iload_n 3, 1) := by decide +kernel
theorem d_O_lend_26 : decode b_O_lend 26 = .ok (.i2l, 1) := by decide +kernel
theorem d_O_lend_27 : decode b_O_lend 27 = .ok (.aload_n 0, 1) := by decide +kernel
theorem d_O_lend_28 : decode b_O_lend 28 = .ok (.getfield 88, 3) := by decide +kernel
theorem d_O_lend_31 : decode b_O_lend 31 = .ok (.i2l, 1) := by decide +kernel
theorem d_O_lend_32 : decode b_O_lend 32 = .ok (.ldc2_w 91, 3) := by decide +kernel
theorem d_O_lend_35 : decode b_O_lend 35 = .ok (.invokestatic 93, 3) := by decide +kernel
theorem d_O_lend_38 : decode b_O_lend 38 = .ok (.ifCond .ne 5, 3) := by decide +kernel
theorem d_O_lend_41 : decode b_O_lend 41 = .ok (.iconst 0, 1) := by decide +kernel
theorem d_O_lend_42 : decode b_O_lend 42 = .ok (.ireturn, 1) := by decide +kernel
theorem d_O_lend_43 : decode b_O_lend 43 = .ok (.aload_n 0, 1) := by decide +kernel
theorem d_O_lend_44 : decode b_O_lend 44 = .ok (.getfield 60, 3) := by decide +kernel
theorem d_O_lend_47 : decode b_O_lend 47 = .ok (.iload_n 1, 1) := by decide +kernel
theorem d_O_lend_48 : decode b_O_lend 48 = .ok (.iconst 1, 1) := by decide +kernel
theorem d_O_lend_49 : decode b_O_lend 49 = .ok (.bastore, 1) := by decide +kernel
theorem d_O_lend_50 : decode b_O_lend 50 = .ok (.aload_n 0, 1) := by decide +kernel
theorem d_O_lend_51 : decode b_O_lend 51 = .ok (.getfield 63, 3) := by decide +kernel
theorem d_O_lend_54 : decode b_O_lend 54 = .ok (.iload_n 1, 1) := by decide +kernel
theorem d_O_lend_55 : decode b_O_lend 55 = .ok (.iload_n 2, 1) := by decide +kernel
theorem d_O_lend_56 : decode b_O_lend 56 = .ok (.iastore, 1) := by decide +kernel
theorem d_O_lend_57 : decode b_O_lend 57 = .ok (.aload_n 0, 1) := by decide +kernel
theorem d_O_lend_58 : decode b_O_lend 58 = .ok (.getfield 66, 3) := by decide +kernel
theorem d_O_lend_61 : decode b_O_lend 61 = .ok (.iload_n 1, 1) := by decide +kernel
theorem d_O_lend_62 : decode b_O_lend 62 = .ok (.iload_n 3, 1) := by decide +kernel
theorem d_O_lend_63 : decode b_O_lend 63 = .ok (.iastore, 1) := by decide +kernel
theorem d_O_lend_64 : decode b_O_lend 64 = .ok (.iconst 1, 1) := by decide +kernel
theorem d_O_lend_65 : decode b_O_lend 65 = .ok (.ireturn, 1) := by decide +kernel
def w_O_lend : List Cond := .code y_O_lend b_O_lend 4 (some .boolean) :: ([.methodLink "PartShelvesModel" 156 ⟨"PartShelvesModel", "isPerson", "(I)Z"⟩, .static ⟨"PartShelvesModel", "isPerson", "(I)Z"⟩, .initialized "PartShelvesModel", .code ⟨"PartShelvesModel", "isPerson", "(I)Z"⟩ prog_9_method_5_code 1 (some .boolean), .fieldLink "PartShelvesModel" 60 "PartShelvesModel" "lent" "[Z", .fieldLink "PartShelvesModel" 88 "PartShelvesModel" "today" "I", .constantLong "PartShelvesModel" 91 100000, .methodLink "PartShelvesModel" 93 ⟨"PartShelvesModel", "isIn", "(JJJ)Z"⟩, .static ⟨"PartShelvesModel", "isIn", "(JJJ)Z"⟩, .code ⟨"PartShelvesModel", "isIn", "(JJJ)Z"⟩ prog_9_method_3_code 6 (some .boolean), .fieldLink "PartShelvesModel" 63 "PartShelvesModel" "lentTo" "[I", .fieldLink "PartShelvesModel" 66 "PartShelvesModel" "lentDay" "[I"] ++ u_ws R_O F_O 36)
set_option maxRecDepth 20000 in
theorem g_O_lend_isPerson : GoodIn w_O_lend (wsS R_O 156 y_O_isPerson w_O_isPerson) := goodIn_p _ [4] rfl (by decide +kernel)
set_option maxRecDepth 20000 in
theorem g_O_lend_isIn : GoodIn w_O_lend (wsS R_O 93 y_O_isIn w_O_isIn) := goodIn_p _ [10] rfl (by decide +kernel)
set_option maxHeartbeats 4000000 in
set_option maxRecDepth 100000 in
theorem c_O_lend (l : Launch) (D : va_G) (kC : Nat → ClassId) (ad : Nat → Nat) (td : Nat) (rn : Nat) (pn : Nat) (an : Nat) (jn : Nat) (tn : Nat) (bm : Int32) (fw : Int64) (gp : Nat) (ga : Nat) (bp : Int32) (fc : Int64) (fj : Nat) (rA : Nat → Nat) (rC : Nat → Nat) (ft : Nat → Int32) (kd : Nat → Nat) (aG : Nat → Nat) (sR : Nat → Nat) (sT : Nat → Nat) (wh : Nat → Nat) (dY : Nat → Nat) (pd : Nat → Nat) (cN : Nat → Nat) (mN : Nat → Nat) (sv : Nat → Int32) (nd : Nat → Nat) (wr : Nat → Nat) (tl : Nat → Nat) (lt : Nat → Int32) (lT : Nat → Nat) (lD : Nat → Nat) (gv : Nat → Int32) (gn : Nat → Int64) (od : Nat → Nat) (br : Nat → Nat) (x : Int32) (y : Int32) (z : Int32) (sz : Nat) (htd : td ≤ 100000) : Met l y_O_lend w_O_lend ({ frames := 1, cells := 0, slots := 0, locals := 25 } : Room) (gPre cls D (tyL kC) [.ref (ad 0), .int x, .int y, .int z] (fl [(wO kC ad td rn pn an jn tn bm fw gp ga bp fc fj rA rC ft kd aG sR sT wh dY pd cN mN sv nd wr tl lt lT lD gv gn od br)]) sz) (gQi cls D (tyL kC) (fl [(wO kC ad td rn pn an jn tn bm fw gp ga bp fc fj rA rC ft kd aG sR sT wh dY pd cN mN sv nd wr tl lt lT lD gv gn od br)]) sz (bI (inR x 4 ∧ inR y 10 ∧ lt (nOf x) = 0 ∧ inI td 100000 z)) (fl [(wO kC ad td rn pn an jn tn bm fw gp ga bp fc fj rA rC ft kd aG sR sT wh dY pd cN mN sv nd wr tl (if (inR x 4 ∧ inR y 10 ∧ lt (nOf x) = 0 ∧ inI td 100000 z) then upd lt (nOf x) (nI 1) else lt) (if (inR x 4 ∧ inR y 10 ∧ lt (nOf x) = 0 ∧ inI td 100000 z) then updN lT (nOf x) (nOf y) else lT) (if (inR x 4 ∧ inR y 10 ∧ lt (nOf x) = 0 ∧ inI td 100000 z) then updN lD (nOf x) (nOf z) else lD) gv gn od br)])) 0 0 (va_A (fl [(wO kC ad td rn pn an jn tn bm fw gp ga bp fc fj rA rC ft kd aG sR sT wh dY pd cN mN sv nd wr tl lt lT lD gv gn od br)]) sz) := by
  refine Met.ofW (cc := b_O_lend) (maxL := 4) (ret := (some .boolean)) (by decide) rfl ?_
  intro p e s m args below meth c s₁ B hml hv
  obtain ⟨rfl, hsz, hP, hK, hD0⟩ := hv
  have hx := B.exec
  have hb := B.bytes
  have hr := B.returns
  have hts := atoms_spec (ws := w_O_lend) B.pre
  have hown : s.vm.findClass R_O = some m.cls := findClass_of_methodNamed B.named
  have hlocks := B.notSynchronized
  subst hsz
  obtain ⟨A, hAe⟩ : ∃ A : Nat → Prop, A = va_A (fl [(wO kC ad td rn pn an jn tn bm fw gp ga bp fc fj rA rC ft kd aG sR sT wh dY pd cN mN sv nd wr tl lt lT lD gv gn od br)]) s.heap.size := ⟨_, rfl⟩
  have hD : va_D A (fl [(wO kC ad td rn pn an jn tn bm fw gp ga bp fc fj rA rC ft kd aG sR sT wh dY pd cN mN sv nd wr tl lt lT lD gv gn od br)]) := by rw [hAe]; exact hD0.self
  have hA : ∀ q : Nat, s.heap.size ≤ q → A q := fun q h => by rw [hAe]; exact Or.inr h
  have hS : va_S A s.heap s.heap [] := va_S.rf
  have hl := lv_entry ([.ref (ad 0), .int x, .int y, .int z]) (n := 4) (Nat.le_of_ble_eq_true rfl)
  rw [lg_entry_eq]
  generalize (lg_sl ([.ref (ad 0), .int x, .int y, .int z]) ++ List.replicate (4 - (lg_sl ([.ref (ad 0), .int x, .int y, .int z])).length) Slot.unset).toArray = ls at hl ⊢
  have hl : lv_has ls 4 [(0, .ref (ad 0)), (1, .int x), (2, .int y), (3, .int z)] := hl
  refine lv_iload_n hx hb d_O_lend_0 rfl (lv_at hl 1 rfl) ?_
  refine lv_if_lt (tgt := 41) hx hb d_O_lend_1 (by decide) (fun h0 => ?_) (fun h0 => ?_)
  · have hC : ¬ (inR x 4 ∧ inR y 10 ∧ lt (nOf x) = 0 ∧ inI td 100000 z) := fun q => by first | exact bI_0.mp h4 (inL_i.mpr q.2.2.2) | (have q3 := q.2.2.1; rw [nOf_nI (by omega)] at q3; exact h3 q3) | exact bI_0.mp h2 q.2.1 | exact inR_ge (by decide) h1 q.1 | exact inR_lt h0 q.1
    refine lv_iconst (v := nI 0) hx hb d_O_lend_41 (by decide) ?_
    have ew1 : lt = (if (inR x 4 ∧ inR y 10 ∧ lt (nOf x) = 0 ∧ inI td 100000 z) then upd lt (nOf x) (nI 1) else lt) := (if_neg hC).symm
    have hP : va_P D cls (fl [(wO kC ad td rn pn an jn tn bm fw gp ga bp fc fj rA rC ft kd aG sR sT wh dY pd cN mN sv nd wr tl (if (inR x 4 ∧ inR y 10 ∧ lt (nOf x) = 0 ∧ inI td 100000 z) then upd lt (nOf x) (nI 1) else lt) lT lD gv gn od br)]) s.heap := by rw [← ew1]; exact hP
    have hD : va_D A (fl [(wO kC ad td rn pn an jn tn bm fw gp ga bp fc fj rA rC ft kd aG sR sT wh dY pd cN mN sv nd wr tl (if (inR x 4 ∧ inR y 10 ∧ lt (nOf x) = 0 ∧ inI td 100000 z) then upd lt (nOf x) (nI 1) else lt) lT lD gv gn od br)]) := by rw [← ew1]; exact hD
    have ew2 : lT = (if (inR x 4 ∧ inR y 10 ∧ lt (nOf x) = 0 ∧ inI td 100000 z) then updN lT (nOf x) (nOf y) else lT) := (if_neg hC).symm
    have hP : va_P D cls (fl [(wO kC ad td rn pn an jn tn bm fw gp ga bp fc fj rA rC ft kd aG sR sT wh dY pd cN mN sv nd wr tl (if (inR x 4 ∧ inR y 10 ∧ lt (nOf x) = 0 ∧ inI td 100000 z) then upd lt (nOf x) (nI 1) else lt) (if (inR x 4 ∧ inR y 10 ∧ lt (nOf x) = 0 ∧ inI td 100000 z) then updN lT (nOf x) (nOf y) else lT) lD gv gn od br)]) s.heap := by rw [← ew2]; exact hP
    have hD : va_D A (fl [(wO kC ad td rn pn an jn tn bm fw gp ga bp fc fj rA rC ft kd aG sR sT wh dY pd cN mN sv nd wr tl (if (inR x 4 ∧ inR y 10 ∧ lt (nOf x) = 0 ∧ inI td 100000 z) then upd lt (nOf x) (nI 1) else lt) (if (inR x 4 ∧ inR y 10 ∧ lt (nOf x) = 0 ∧ inI td 100000 z) then updN lT (nOf x) (nOf y) else lT) lD gv gn od br)]) := by rw [← ew2]; exact hD
    have ew3 : lD = (if (inR x 4 ∧ inR y 10 ∧ lt (nOf x) = 0 ∧ inI td 100000 z) then updN lD (nOf x) (nOf z) else lD) := (if_neg hC).symm
    have hP : va_P D cls (fl [(wO kC ad td rn pn an jn tn bm fw gp ga bp fc fj rA rC ft kd aG sR sT wh dY pd cN mN sv nd wr tl (if (inR x 4 ∧ inR y 10 ∧ lt (nOf x) = 0 ∧ inI td 100000 z) then upd lt (nOf x) (nI 1) else lt) (if (inR x 4 ∧ inR y 10 ∧ lt (nOf x) = 0 ∧ inI td 100000 z) then updN lT (nOf x) (nOf y) else lT) (if (inR x 4 ∧ inR y 10 ∧ lt (nOf x) = 0 ∧ inI td 100000 z) then updN lD (nOf x) (nOf z) else lD) gv gn od br)]) s.heap := by rw [← ew3]; exact hP
    have hD : va_D A (fl [(wO kC ad td rn pn an jn tn bm fw gp ga bp fc fj rA rC ft kd aG sR sT wh dY pd cN mN sv nd wr tl (if (inR x 4 ∧ inR y 10 ∧ lt (nOf x) = 0 ∧ inI td 100000 z) then upd lt (nOf x) (nI 1) else lt) (if (inR x 4 ∧ inR y 10 ∧ lt (nOf x) = 0 ∧ inI td 100000 z) then updN lT (nOf x) (nOf y) else lT) (if (inR x 4 ∧ inR y 10 ∧ lt (nOf x) = 0 ∧ inI td 100000 z) then updN lD (nOf x) (nOf z) else lD) gv gn od br)]) := by rw [← ew3]; exact hD
    exact W.zret (v := nI 0) hx hb hr (nar_b (by first | exact Or.inl rfl | exact Or.inr rfl | exact bI_01)) (fun t ht hW => by subst hAe; exact ⟨⟨(nI 0), (), rfl, (bI_f hC).symm, by rw [ht]; exact hP, va_K.moved hW.alike hK, hD⟩, hS.F ht⟩) (by subst hAe; exact hS.2.2) d_O_lend_42
  · refine lv_iload_n hx hb d_O_lend_4 rfl (lv_at hl 1 rfl) ?_
    refine lv_iconst (v := nI 4) hx hb d_O_lend_5 (by decide) ?_
    refine lv_icmp_ge (tgt := 41) hx hb d_O_lend_6 (by decide) (fun h1 => ?_) (fun h1 => ?_)
    · have hC : ¬ (inR x 4 ∧ inR y 10 ∧ lt (nOf x) = 0 ∧ inI td 100000 z) := fun q => by first | exact bI_0.mp h4 (inL_i.mpr q.2.2.2) | (have q3 := q.2.2.1; rw [nOf_nI (by omega)] at q3; exact h3 q3) | exact bI_0.mp h2 q.2.1 | exact inR_ge (by decide) h1 q.1 | exact inR_lt h0 q.1
      refine lv_iconst (v := nI 0) hx hb d_O_lend_41 (by decide) ?_
      have ew4 : lt = (if (inR x 4 ∧ inR y 10 ∧ lt (nOf x) = 0 ∧ inI td 100000 z) then upd lt (nOf x) (nI 1) else lt) := (if_neg hC).symm
      have hP : va_P D cls (fl [(wO kC ad td rn pn an jn tn bm fw gp ga bp fc fj rA rC ft kd aG sR sT wh dY pd cN mN sv nd wr tl (if (inR x 4 ∧ inR y 10 ∧ lt (nOf x) = 0 ∧ inI td 100000 z) then upd lt (nOf x) (nI 1) else lt) lT lD gv gn od br)]) s.heap := by rw [← ew4]; exact hP
      have hD : va_D A (fl [(wO kC ad td rn pn an jn tn bm fw gp ga bp fc fj rA rC ft kd aG sR sT wh dY pd cN mN sv nd wr tl (if (inR x 4 ∧ inR y 10 ∧ lt (nOf x) = 0 ∧ inI td 100000 z) then upd lt (nOf x) (nI 1) else lt) lT lD gv gn od br)]) := by rw [← ew4]; exact hD
      have ew5 : lT = (if (inR x 4 ∧ inR y 10 ∧ lt (nOf x) = 0 ∧ inI td 100000 z) then updN lT (nOf x) (nOf y) else lT) := (if_neg hC).symm
      have hP : va_P D cls (fl [(wO kC ad td rn pn an jn tn bm fw gp ga bp fc fj rA rC ft kd aG sR sT wh dY pd cN mN sv nd wr tl (if (inR x 4 ∧ inR y 10 ∧ lt (nOf x) = 0 ∧ inI td 100000 z) then upd lt (nOf x) (nI 1) else lt) (if (inR x 4 ∧ inR y 10 ∧ lt (nOf x) = 0 ∧ inI td 100000 z) then updN lT (nOf x) (nOf y) else lT) lD gv gn od br)]) s.heap := by rw [← ew5]; exact hP
      have hD : va_D A (fl [(wO kC ad td rn pn an jn tn bm fw gp ga bp fc fj rA rC ft kd aG sR sT wh dY pd cN mN sv nd wr tl (if (inR x 4 ∧ inR y 10 ∧ lt (nOf x) = 0 ∧ inI td 100000 z) then upd lt (nOf x) (nI 1) else lt) (if (inR x 4 ∧ inR y 10 ∧ lt (nOf x) = 0 ∧ inI td 100000 z) then updN lT (nOf x) (nOf y) else lT) lD gv gn od br)]) := by rw [← ew5]; exact hD
      have ew6 : lD = (if (inR x 4 ∧ inR y 10 ∧ lt (nOf x) = 0 ∧ inI td 100000 z) then updN lD (nOf x) (nOf z) else lD) := (if_neg hC).symm
      have hP : va_P D cls (fl [(wO kC ad td rn pn an jn tn bm fw gp ga bp fc fj rA rC ft kd aG sR sT wh dY pd cN mN sv nd wr tl (if (inR x 4 ∧ inR y 10 ∧ lt (nOf x) = 0 ∧ inI td 100000 z) then upd lt (nOf x) (nI 1) else lt) (if (inR x 4 ∧ inR y 10 ∧ lt (nOf x) = 0 ∧ inI td 100000 z) then updN lT (nOf x) (nOf y) else lT) (if (inR x 4 ∧ inR y 10 ∧ lt (nOf x) = 0 ∧ inI td 100000 z) then updN lD (nOf x) (nOf z) else lD) gv gn od br)]) s.heap := by rw [← ew6]; exact hP
      have hD : va_D A (fl [(wO kC ad td rn pn an jn tn bm fw gp ga bp fc fj rA rC ft kd aG sR sT wh dY pd cN mN sv nd wr tl (if (inR x 4 ∧ inR y 10 ∧ lt (nOf x) = 0 ∧ inI td 100000 z) then upd lt (nOf x) (nI 1) else lt) (if (inR x 4 ∧ inR y 10 ∧ lt (nOf x) = 0 ∧ inI td 100000 z) then updN lT (nOf x) (nOf y) else lT) (if (inR x 4 ∧ inR y 10 ∧ lt (nOf x) = 0 ∧ inI td 100000 z) then updN lD (nOf x) (nOf z) else lD) gv gn od br)]) := by rw [← ew6]; exact hD
      exact W.zret (v := nI 0) hx hb hr (nar_b (by first | exact Or.inl rfl | exact Or.inr rfl | exact bI_01)) (fun t ht hW => by subst hAe; exact ⟨⟨(nI 0), (), rfl, (bI_f hC).symm, by rw [ht]; exact hP, va_K.moved hW.alike hK, hD⟩, hS.F ht⟩) (by subst hAe; exact hS.2.2) d_O_lend_42
    · obtain ⟨j, hj, rfl⟩ := in_of (by decide) h0 h1
      refine lv_iload_n hx hb d_O_lend_9 rfl (lv_at hl 2 rfl) ?_
      refine r_calli (W.runS (As := [.int y]) (rest := []) ⟨hx, hb, hml, hown, hts⟩ (c_O_isPerson l y) (cwS 1 hts g_O_lend_isPerson rfl rfl rfl (by decide +kernel) ⟨Nat.le_of_ble_eq_true rfl, Nat.le_of_ble_eq_true rfl⟩) p0_preS rfl rfl hl.1 rfl (lv_room (Nat.le_of_ble_eq_true rfl)) d_O_lend_10 ⟨Nat.le_of_ble_eq_true rfl, Nat.le_of_ble_eq_true rfl⟩) ?_
      refine lv_if_eq (tgt := 41) hx hb d_O_lend_13 (by decide) (fun h2 => ?_) (fun h2 => ?_)
      · have hC : ¬ (inR (nI j) 4 ∧ inR y 10 ∧ lt (nOf (nI j)) = 0 ∧ inI td 100000 z) := fun q => by first | exact bI_0.mp h4 (inL_i.mpr q.2.2.2) | (have q3 := q.2.2.1; rw [nOf_nI (by omega)] at q3; exact h3 q3) | exact bI_0.mp h2 q.2.1 | exact inR_ge (by decide) h1 q.1 | exact inR_lt h0 q.1
        refine lv_iconst (v := nI 0) hx hb d_O_lend_41 (by decide) ?_
        have ew7 : lt = (if (inR (nI j) 4 ∧ inR y 10 ∧ lt (nOf (nI j)) = 0 ∧ inI td 100000 z) then upd lt (nOf (nI j)) (nI 1) else lt) := (if_neg hC).symm
        have hP : va_P D cls (fl [(wO kC ad td rn pn an jn tn bm fw gp ga bp fc fj rA rC ft kd aG sR sT wh dY pd cN mN sv nd wr tl (if (inR (nI j) 4 ∧ inR y 10 ∧ lt (nOf (nI j)) = 0 ∧ inI td 100000 z) then upd lt (nOf (nI j)) (nI 1) else lt) lT lD gv gn od br)]) s.heap := by rw [← ew7]; exact hP
        have hD : va_D A (fl [(wO kC ad td rn pn an jn tn bm fw gp ga bp fc fj rA rC ft kd aG sR sT wh dY pd cN mN sv nd wr tl (if (inR (nI j) 4 ∧ inR y 10 ∧ lt (nOf (nI j)) = 0 ∧ inI td 100000 z) then upd lt (nOf (nI j)) (nI 1) else lt) lT lD gv gn od br)]) := by rw [← ew7]; exact hD
        have ew8 : lT = (if (inR (nI j) 4 ∧ inR y 10 ∧ lt (nOf (nI j)) = 0 ∧ inI td 100000 z) then updN lT (nOf (nI j)) (nOf y) else lT) := (if_neg hC).symm
        have hP : va_P D cls (fl [(wO kC ad td rn pn an jn tn bm fw gp ga bp fc fj rA rC ft kd aG sR sT wh dY pd cN mN sv nd wr tl (if (inR (nI j) 4 ∧ inR y 10 ∧ lt (nOf (nI j)) = 0 ∧ inI td 100000 z) then upd lt (nOf (nI j)) (nI 1) else lt) (if (inR (nI j) 4 ∧ inR y 10 ∧ lt (nOf (nI j)) = 0 ∧ inI td 100000 z) then updN lT (nOf (nI j)) (nOf y) else lT) lD gv gn od br)]) s.heap := by rw [← ew8]; exact hP
        have hD : va_D A (fl [(wO kC ad td rn pn an jn tn bm fw gp ga bp fc fj rA rC ft kd aG sR sT wh dY pd cN mN sv nd wr tl (if (inR (nI j) 4 ∧ inR y 10 ∧ lt (nOf (nI j)) = 0 ∧ inI td 100000 z) then upd lt (nOf (nI j)) (nI 1) else lt) (if (inR (nI j) 4 ∧ inR y 10 ∧ lt (nOf (nI j)) = 0 ∧ inI td 100000 z) then updN lT (nOf (nI j)) (nOf y) else lT) lD gv gn od br)]) := by rw [← ew8]; exact hD
        have ew9 : lD = (if (inR (nI j) 4 ∧ inR y 10 ∧ lt (nOf (nI j)) = 0 ∧ inI td 100000 z) then updN lD (nOf (nI j)) (nOf z) else lD) := (if_neg hC).symm
        have hP : va_P D cls (fl [(wO kC ad td rn pn an jn tn bm fw gp ga bp fc fj rA rC ft kd aG sR sT wh dY pd cN mN sv nd wr tl (if (inR (nI j) 4 ∧ inR y 10 ∧ lt (nOf (nI j)) = 0 ∧ inI td 100000 z) then upd lt (nOf (nI j)) (nI 1) else lt) (if (inR (nI j) 4 ∧ inR y 10 ∧ lt (nOf (nI j)) = 0 ∧ inI td 100000 z) then updN lT (nOf (nI j)) (nOf y) else lT) (if (inR (nI j) 4 ∧ inR y 10 ∧ lt (nOf (nI j)) = 0 ∧ inI td 100000 z) then updN lD (nOf (nI j)) (nOf z) else lD) gv gn od br)]) s.heap := by rw [← ew9]; exact hP
        have hD : va_D A (fl [(wO kC ad td rn pn an jn tn bm fw gp ga bp fc fj rA rC ft kd aG sR sT wh dY pd cN mN sv nd wr tl (if (inR (nI j) 4 ∧ inR y 10 ∧ lt (nOf (nI j)) = 0 ∧ inI td 100000 z) then upd lt (nOf (nI j)) (nI 1) else lt) (if (inR (nI j) 4 ∧ inR y 10 ∧ lt (nOf (nI j)) = 0 ∧ inI td 100000 z) then updN lT (nOf (nI j)) (nOf y) else lT) (if (inR (nI j) 4 ∧ inR y 10 ∧ lt (nOf (nI j)) = 0 ∧ inI td 100000 z) then updN lD (nOf (nI j)) (nOf z) else lD) gv gn od br)]) := by rw [← ew9]; exact hD
        exact W.zret (v := nI 0) hx hb hr (nar_b (by first | exact Or.inl rfl | exact Or.inr rfl | exact bI_01)) (fun t ht hW => by subst hAe; exact ⟨⟨(nI 0), (), rfl, (bI_f hC).symm, by rw [ht]; exact hP, va_K.moved hW.alike hK, hD⟩, hS.F ht⟩) (by subst hAe; exact hS.2.2) d_O_lend_42
      · have h2 := bI_n0.mp h2
        refine lv_aload_n hx hb d_O_lend_16 rfl (lv_at hl 0 rfl) ?_
        refine fv_get (ci := 7) (v := .ref (ad 17)) (C := R_O) (T := F_O) (N := 36) hx hb hts (by decide +kernel) hown hK hP 0 0 rfl rfl rfl 22 (by decide) (hts (.fieldLink R_O 60 "PartShelvesModel" "lent" "[Z") (by decide +kernel)) (fun _ h9 => h9) rfl d_O_lend_17 ?_
        refine lv_iload_n hx hb d_O_lend_20 rfl (lv_at hl 1 rfl) ?_
        refine fa_zald hx hb hK hP 0 17 2 rfl rfl rfl (by omega) (by decide) d_O_lend_21 ?_
        refine lv_if_ne (tgt := 41) hx hb d_O_lend_22 (by decide) (fun h3 => ?_) (fun h3 => ?_)
        · have hC : ¬ (inR (nI j) 4 ∧ inR y 10 ∧ lt (nOf (nI j)) = 0 ∧ inI td 100000 z) := fun q => by first | exact bI_0.mp h4 (inL_i.mpr q.2.2.2) | (have q3 := q.2.2.1; rw [nOf_nI (by omega)] at q3; exact h3 q3) | exact bI_0.mp h2 q.2.1 | exact inR_ge (by decide) h1 q.1 | exact inR_lt h0 q.1
          refine lv_iconst (v := nI 0) hx hb d_O_lend_41 (by decide) ?_
          have ew10 : lt = (if (inR (nI j) 4 ∧ inR y 10 ∧ lt (nOf (nI j)) = 0 ∧ inI td 100000 z) then upd lt (nOf (nI j)) (nI 1) else lt) := (if_neg hC).symm
          have hP : va_P D cls (fl [(wO kC ad td rn pn an jn tn bm fw gp ga bp fc fj rA rC ft kd aG sR sT wh dY pd cN mN sv nd wr tl (if (inR (nI j) 4 ∧ inR y 10 ∧ lt (nOf (nI j)) = 0 ∧ inI td 100000 z) then upd lt (nOf (nI j)) (nI 1) else lt) lT lD gv gn od br)]) s.heap := by rw [← ew10]; exact hP
          have hD : va_D A (fl [(wO kC ad td rn pn an jn tn bm fw gp ga bp fc fj rA rC ft kd aG sR sT wh dY pd cN mN sv nd wr tl (if (inR (nI j) 4 ∧ inR y 10 ∧ lt (nOf (nI j)) = 0 ∧ inI td 100000 z) then upd lt (nOf (nI j)) (nI 1) else lt) lT lD gv gn od br)]) := by rw [← ew10]; exact hD
          have ew11 : lT = (if (inR (nI j) 4 ∧ inR y 10 ∧ lt (nOf (nI j)) = 0 ∧ inI td 100000 z) then updN lT (nOf (nI j)) (nOf y) else lT) := (if_neg hC).symm
          have hP : va_P D cls (fl [(wO kC ad td rn pn an jn tn bm fw gp ga bp fc fj rA rC ft kd aG sR sT wh dY pd cN mN sv nd wr tl (if (inR (nI j) 4 ∧ inR y 10 ∧ lt (nOf (nI j)) = 0 ∧ inI td 100000 z) then upd lt (nOf (nI j)) (nI 1) else lt) (if (inR (nI j) 4 ∧ inR y 10 ∧ lt (nOf (nI j)) = 0 ∧ inI td 100000 z) then updN lT (nOf (nI j)) (nOf y) else lT) lD gv gn od br)]) s.heap := by rw [← ew11]; exact hP
          have hD : va_D A (fl [(wO kC ad td rn pn an jn tn bm fw gp ga bp fc fj rA rC ft kd aG sR sT wh dY pd cN mN sv nd wr tl (if (inR (nI j) 4 ∧ inR y 10 ∧ lt (nOf (nI j)) = 0 ∧ inI td 100000 z) then upd lt (nOf (nI j)) (nI 1) else lt) (if (inR (nI j) 4 ∧ inR y 10 ∧ lt (nOf (nI j)) = 0 ∧ inI td 100000 z) then updN lT (nOf (nI j)) (nOf y) else lT) lD gv gn od br)]) := by rw [← ew11]; exact hD
          have ew12 : lD = (if (inR (nI j) 4 ∧ inR y 10 ∧ lt (nOf (nI j)) = 0 ∧ inI td 100000 z) then updN lD (nOf (nI j)) (nOf z) else lD) := (if_neg hC).symm
          have hP : va_P D cls (fl [(wO kC ad td rn pn an jn tn bm fw gp ga bp fc fj rA rC ft kd aG sR sT wh dY pd cN mN sv nd wr tl (if (inR (nI j) 4 ∧ inR y 10 ∧ lt (nOf (nI j)) = 0 ∧ inI td 100000 z) then upd lt (nOf (nI j)) (nI 1) else lt) (if (inR (nI j) 4 ∧ inR y 10 ∧ lt (nOf (nI j)) = 0 ∧ inI td 100000 z) then updN lT (nOf (nI j)) (nOf y) else lT) (if (inR (nI j) 4 ∧ inR y 10 ∧ lt (nOf (nI j)) = 0 ∧ inI td 100000 z) then updN lD (nOf (nI j)) (nOf z) else lD) gv gn od br)]) s.heap := by rw [← ew12]; exact hP
          have hD : va_D A (fl [(wO kC ad td rn pn an jn tn bm fw gp ga bp fc fj rA rC ft kd aG sR sT wh dY pd cN mN sv nd wr tl (if (inR (nI j) 4 ∧ inR y 10 ∧ lt (nOf (nI j)) = 0 ∧ inI td 100000 z) then upd lt (nOf (nI j)) (nI 1) else lt) (if (inR (nI j) 4 ∧ inR y 10 ∧ lt (nOf (nI j)) = 0 ∧ inI td 100000 z) then updN lT (nOf (nI j)) (nOf y) else lT) (if (inR (nI j) 4 ∧ inR y 10 ∧ lt (nOf (nI j)) = 0 ∧ inI td 100000 z) then updN lD (nOf (nI j)) (nOf z) else lD) gv gn od br)]) := by rw [← ew12]; exact hD
          exact W.zret (v := nI 0) hx hb hr (nar_b (by first | exact Or.inl rfl | exact Or.inr rfl | exact bI_01)) (fun t ht hW => by subst hAe; exact ⟨⟨(nI 0), (), rfl, (bI_f hC).symm, by rw [ht]; exact hP, va_K.moved hW.alike hK, hD⟩, hS.F ht⟩) (by subst hAe; exact hS.2.2) d_O_lend_42
        · refine lv_iload_n hx hb d_O_lend_25 rfl (lv_at hl 3 rfl) ?_
          refine lv_i2l hx hb d_O_lend_26 rfl ?_
          refine lv_aload_n hx hb d_O_lend_27 rfl (lv_at hl 0 rfl) ?_
          refine fv_get (ci := 7) (v := .int (nI td)) (C := R_O) (T := F_O) (N := 36) hx hb hts (by decide +kernel) hown hK hP 0 0 rfl rfl rfl 0 (by decide) (hts (.fieldLink R_O 88 "PartShelvesModel" "today" "I") (by decide +kernel)) (fun _ h9 => h9) rfl d_O_lend_28 ?_
          refine nv_i2l hx hb d_O_lend_31 (by omega) ?_
          refine lv_ldc2 (v := 100000) hx hb hown (hts (.constantLong R_O 91 100000) (by decide +kernel)) d_O_lend_32 ?_
          refine nv_topl (y := lN 100000) (by decide +kernel) ?_
          refine r_calli (W.runS (As := [.long z.toInt64, .long (lN td), .long (lN 100000)]) (rest := []) ⟨hx, hb, hml, hown, hts⟩ (c_O_isIn l z.toInt64 td 100000 (by omega) (by decide)) (cwS 3 hts g_O_lend_isIn rfl rfl rfl (by decide +kernel) ⟨Nat.le_of_ble_eq_true rfl, Nat.le_of_ble_eq_true rfl⟩) p0_preS rfl rfl hl.1 rfl (lv_room (Nat.le_of_ble_eq_true rfl)) d_O_lend_35 ⟨Nat.le_of_ble_eq_true rfl, Nat.le_of_ble_eq_true rfl⟩) ?_
          refine lv_if_ne (tgt := 43) hx hb d_O_lend_38 (by decide) (fun h4 => ?_) (fun h4 => ?_)
          · have h4 := inL_i.mp (bI_n0.mp h4)
            have hC : (inR (nI j) 4 ∧ inR y 10 ∧ lt (nOf (nI j)) = 0 ∧ inI td 100000 z) := ⟨(inR_nI (by omega)).mpr hj, h2, by rw [nOf_nI (by omega)]; exact h3, h4⟩
            obtain ⟨k, hk, rfl⟩ := inR_n (by decide) h2
            obtain ⟨i, hi1, hi2, rfl⟩ := inI_n (by decide) h4
            refine lv_aload_n hx hb d_O_lend_43 rfl (lv_at hl 0 rfl) ?_
            refine fv_get (ci := 7) (v := .ref (ad 17)) (C := R_O) (T := F_O) (N := 36) hx hb hts (by decide +kernel) hown hK hP 0 0 rfl rfl rfl 22 (by decide) (hts (.fieldLink R_O 60 "PartShelvesModel" "lent" "[Z") (by decide +kernel)) (fun _ h9 => h9) rfl d_O_lend_44 ?_
            refine lv_iload_n hx hb d_O_lend_47 rfl (lv_at hl 1 rfl) ?_
            refine lv_iconst (v := nI 1) hx hb d_O_lend_48 (by decide) ?_
            refine fa_zast hx hb hK hP hD hS 0 17 2 rfl rfl rfl (by decide) (by omega) (by decide) d_O_lend_49 (fun H locs hP hD hS => ?_)
            have hP : va_P D cls (fl [(wO kC ad td rn pn an jn tn bm fw gp ga bp fc fj rA rC ft kd aG sR sT wh dY pd cN mN sv nd wr tl (upd lt j (nI 1)) lT lD gv gn od br)]) H := hP
            have hD : va_D A (fl [(wO kC ad td rn pn an jn tn bm fw gp ga bp fc fj rA rC ft kd aG sR sT wh dY pd cN mN sv nd wr tl (upd lt j (nI 1)) lT lD gv gn od br)]) := hD
            refine lv_aload_n hx hb d_O_lend_50 rfl (lv_at hl 0 rfl) ?_
            refine fv_get (ci := 7) (v := .ref (ad 18)) (C := R_O) (T := F_O) (N := 36) hx hb hts (by decide +kernel) hown hK hP 0 0 rfl rfl rfl 23 (by decide) (hts (.fieldLink R_O 63 "PartShelvesModel" "lentTo" "[I") (by decide +kernel)) (fun _ h9 => h9) rfl d_O_lend_51 ?_
            refine lv_iload_n hx hb d_O_lend_54 rfl (lv_at hl 1 rfl) ?_
            refine lv_iload_n hx hb d_O_lend_55 rfl (lv_at hl 2 rfl) ?_
            refine fa_iastN hx hb hK hP hD hS 0 18 0 rfl rfl rfl (by omega) (by decide) d_O_lend_56 (fun H locs hP hD hS => ?_)
            have hP : va_P D cls (fl [(wO kC ad td rn pn an jn tn bm fw gp ga bp fc fj rA rC ft kd aG sR sT wh dY pd cN mN sv nd wr tl (upd lt j (nI 1)) (updN lT j k) lD gv gn od br)]) H := hP
            have hD : va_D A (fl [(wO kC ad td rn pn an jn tn bm fw gp ga bp fc fj rA rC ft kd aG sR sT wh dY pd cN mN sv nd wr tl (upd lt j (nI 1)) (updN lT j k) lD gv gn od br)]) := hD
            refine lv_aload_n hx hb d_O_lend_57 rfl (lv_at hl 0 rfl) ?_
            refine fv_get (ci := 7) (v := .ref (ad 19)) (C := R_O) (T := F_O) (N := 36) hx hb hts (by decide +kernel) hown hK hP 0 0 rfl rfl rfl 24 (by decide) (hts (.fieldLink R_O 66 "PartShelvesModel" "lentDay" "[I") (by decide +kernel)) (fun _ h9 => h9) rfl d_O_lend_58 ?_
            refine lv_iload_n hx hb d_O_lend_61 rfl (lv_at hl 1 rfl) ?_
            refine lv_iload_n hx hb d_O_lend_62 rfl (lv_at hl 3 rfl) ?_
            refine fa_iastN hx hb hK hP hD hS 0 19 0 rfl rfl rfl (by omega) (by decide) d_O_lend_63 (fun H locs hP hD hS => ?_)
            have hP : va_P D cls (fl [(wO kC ad td rn pn an jn tn bm fw gp ga bp fc fj rA rC ft kd aG sR sT wh dY pd cN mN sv nd wr tl (upd lt j (nI 1)) (updN lT j k) (updN lD j i) gv gn od br)]) H := hP
            have hD : va_D A (fl [(wO kC ad td rn pn an jn tn bm fw gp ga bp fc fj rA rC ft kd aG sR sT wh dY pd cN mN sv nd wr tl (upd lt j (nI 1)) (updN lT j k) (updN lD j i) gv gn od br)]) := hD
            refine lv_iconst (v := nI 1) hx hb d_O_lend_64 (by decide) ?_
            have ew13 : (upd lt j (nI 1)) = (if (inR (nI j) 4 ∧ inR (nI k) 10 ∧ lt (nOf (nI j)) = 0 ∧ inI td 100000 (nI i)) then upd lt (nOf (nI j)) (nI 1) else lt) := by rw [if_pos hC, nOf_nI (by omega)]
            have hP : va_P D cls (fl [(wO kC ad td rn pn an jn tn bm fw gp ga bp fc fj rA rC ft kd aG sR sT wh dY pd cN mN sv nd wr tl (if (inR (nI j) 4 ∧ inR (nI k) 10 ∧ lt (nOf (nI j)) = 0 ∧ inI td 100000 (nI i)) then upd lt (nOf (nI j)) (nI 1) else lt) (updN lT j k) (updN lD j i) gv gn od br)]) H := by rw [← ew13]; exact hP
            have hD : va_D A (fl [(wO kC ad td rn pn an jn tn bm fw gp ga bp fc fj rA rC ft kd aG sR sT wh dY pd cN mN sv nd wr tl (if (inR (nI j) 4 ∧ inR (nI k) 10 ∧ lt (nOf (nI j)) = 0 ∧ inI td 100000 (nI i)) then upd lt (nOf (nI j)) (nI 1) else lt) (updN lT j k) (updN lD j i) gv gn od br)]) := by rw [← ew13]; exact hD
            have ew14 : (updN lT j k) = (if (inR (nI j) 4 ∧ inR (nI k) 10 ∧ lt (nOf (nI j)) = 0 ∧ inI td 100000 (nI i)) then updN lT (nOf (nI j)) (nOf (nI k)) else lT) := by rw [if_pos hC, nOf_nI (by omega), nOf_nI (by omega)]
            have hP : va_P D cls (fl [(wO kC ad td rn pn an jn tn bm fw gp ga bp fc fj rA rC ft kd aG sR sT wh dY pd cN mN sv nd wr tl (if (inR (nI j) 4 ∧ inR (nI k) 10 ∧ lt (nOf (nI j)) = 0 ∧ inI td 100000 (nI i)) then upd lt (nOf (nI j)) (nI 1) else lt) (if (inR (nI j) 4 ∧ inR (nI k) 10 ∧ lt (nOf (nI j)) = 0 ∧ inI td 100000 (nI i)) then updN lT (nOf (nI j)) (nOf (nI k)) else lT) (updN lD j i) gv gn od br)]) H := by rw [← ew14]; exact hP
            have hD : va_D A (fl [(wO kC ad td rn pn an jn tn bm fw gp ga bp fc fj rA rC ft kd aG sR sT wh dY pd cN mN sv nd wr tl (if (inR (nI j) 4 ∧ inR (nI k) 10 ∧ lt (nOf (nI j)) = 0 ∧ inI td 100000 (nI i)) then upd lt (nOf (nI j)) (nI 1) else lt) (if (inR (nI j) 4 ∧ inR (nI k) 10 ∧ lt (nOf (nI j)) = 0 ∧ inI td 100000 (nI i)) then updN lT (nOf (nI j)) (nOf (nI k)) else lT) (updN lD j i) gv gn od br)]) := by rw [← ew14]; exact hD
            have ew15 : (updN lD j i) = (if (inR (nI j) 4 ∧ inR (nI k) 10 ∧ lt (nOf (nI j)) = 0 ∧ inI td 100000 (nI i)) then updN lD (nOf (nI j)) (nOf (nI i)) else lD) := by rw [if_pos hC, nOf_nI (by omega), nOf_nI (by omega)]
            have hP : va_P D cls (fl [(wO kC ad td rn pn an jn tn bm fw gp ga bp fc fj rA rC ft kd aG sR sT wh dY pd cN mN sv nd wr tl (if (inR (nI j) 4 ∧ inR (nI k) 10 ∧ lt (nOf (nI j)) = 0 ∧ inI td 100000 (nI i)) then upd lt (nOf (nI j)) (nI 1) else lt) (if (inR (nI j) 4 ∧ inR (nI k) 10 ∧ lt (nOf (nI j)) = 0 ∧ inI td 100000 (nI i)) then updN lT (nOf (nI j)) (nOf (nI k)) else lT) (if (inR (nI j) 4 ∧ inR (nI k) 10 ∧ lt (nOf (nI j)) = 0 ∧ inI td 100000 (nI i)) then updN lD (nOf (nI j)) (nOf (nI i)) else lD) gv gn od br)]) H := by rw [← ew15]; exact hP
            have hD : va_D A (fl [(wO kC ad td rn pn an jn tn bm fw gp ga bp fc fj rA rC ft kd aG sR sT wh dY pd cN mN sv nd wr tl (if (inR (nI j) 4 ∧ inR (nI k) 10 ∧ lt (nOf (nI j)) = 0 ∧ inI td 100000 (nI i)) then upd lt (nOf (nI j)) (nI 1) else lt) (if (inR (nI j) 4 ∧ inR (nI k) 10 ∧ lt (nOf (nI j)) = 0 ∧ inI td 100000 (nI i)) then updN lT (nOf (nI j)) (nOf (nI k)) else lT) (if (inR (nI j) 4 ∧ inR (nI k) 10 ∧ lt (nOf (nI j)) = 0 ∧ inI td 100000 (nI i)) then updN lD (nOf (nI j)) (nOf (nI i)) else lD) gv gn od br)]) := by rw [← ew15]; exact hD
            exact W.zret (v := nI 1) hx hb hr (nar_b (by first | exact Or.inl rfl | exact Or.inr rfl | exact bI_01)) (fun t ht hW => by subst hAe; exact ⟨⟨(nI 1), (), rfl, (bI_t hC).symm, by rw [ht]; exact hP, va_K.moved hW.alike hK, hD⟩, hS.F ht⟩) (by subst hAe; exact hS.2.2) d_O_lend_65
          · have hC : ¬ (inR (nI j) 4 ∧ inR y 10 ∧ lt (nOf (nI j)) = 0 ∧ inI td 100000 z) := fun q => by first | exact bI_0.mp h4 (inL_i.mpr q.2.2.2) | (have q3 := q.2.2.1; rw [nOf_nI (by omega)] at q3; exact h3 q3) | exact bI_0.mp h2 q.2.1 | exact inR_ge (by decide) h1 q.1 | exact inR_lt h0 q.1
            refine lv_iconst (v := nI 0) hx hb d_O_lend_41 (by decide) ?_
            have ew16 : lt = (if (inR (nI j) 4 ∧ inR y 10 ∧ lt (nOf (nI j)) = 0 ∧ inI td 100000 z) then upd lt (nOf (nI j)) (nI 1) else lt) := (if_neg hC).symm
            have hP : va_P D cls (fl [(wO kC ad td rn pn an jn tn bm fw gp ga bp fc fj rA rC ft kd aG sR sT wh dY pd cN mN sv nd wr tl (if (inR (nI j) 4 ∧ inR y 10 ∧ lt (nOf (nI j)) = 0 ∧ inI td 100000 z) then upd lt (nOf (nI j)) (nI 1) else lt) lT lD gv gn od br)]) s.heap := by rw [← ew16]; exact hP
            have hD : va_D A (fl [(wO kC ad td rn pn an jn tn bm fw gp ga bp fc fj rA rC ft kd aG sR sT wh dY pd cN mN sv nd wr tl (if (inR (nI j) 4 ∧ inR y 10 ∧ lt (nOf (nI j)) = 0 ∧ inI td 100000 z) then upd lt (nOf (nI j)) (nI 1) else lt) lT lD gv gn od br)]) := by rw [← ew16]; exact hD
            have ew17 : lT = (if (inR (nI j) 4 ∧ inR y 10 ∧ lt (nOf (nI j)) = 0 ∧ inI td 100000 z) then updN lT (nOf (nI j)) (nOf y) else lT) := (if_neg hC).symm
            have hP : va_P D cls (fl [(wO kC ad td rn pn an jn tn bm fw gp ga bp fc fj rA rC ft kd aG sR sT wh dY pd cN mN sv nd wr tl (if (inR (nI j) 4 ∧ inR y 10 ∧ lt (nOf (nI j)) = 0 ∧ inI td 100000 z) then upd lt (nOf (nI j)) (nI 1) else lt) (if (inR (nI j) 4 ∧ inR y 10 ∧ lt (nOf (nI j)) = 0 ∧ inI td 100000 z) then updN lT (nOf (nI j)) (nOf y) else lT) lD gv gn od br)]) s.heap := by rw [← ew17]; exact hP
            have hD : va_D A (fl [(wO kC ad td rn pn an jn tn bm fw gp ga bp fc fj rA rC ft kd aG sR sT wh dY pd cN mN sv nd wr tl (if (inR (nI j) 4 ∧ inR y 10 ∧ lt (nOf (nI j)) = 0 ∧ inI td 100000 z) then upd lt (nOf (nI j)) (nI 1) else lt) (if (inR (nI j) 4 ∧ inR y 10 ∧ lt (nOf (nI j)) = 0 ∧ inI td 100000 z) then updN lT (nOf (nI j)) (nOf y) else lT) lD gv gn od br)]) := by rw [← ew17]; exact hD
            have ew18 : lD = (if (inR (nI j) 4 ∧ inR y 10 ∧ lt (nOf (nI j)) = 0 ∧ inI td 100000 z) then updN lD (nOf (nI j)) (nOf z) else lD) := (if_neg hC).symm
            have hP : va_P D cls (fl [(wO kC ad td rn pn an jn tn bm fw gp ga bp fc fj rA rC ft kd aG sR sT wh dY pd cN mN sv nd wr tl (if (inR (nI j) 4 ∧ inR y 10 ∧ lt (nOf (nI j)) = 0 ∧ inI td 100000 z) then upd lt (nOf (nI j)) (nI 1) else lt) (if (inR (nI j) 4 ∧ inR y 10 ∧ lt (nOf (nI j)) = 0 ∧ inI td 100000 z) then updN lT (nOf (nI j)) (nOf y) else lT) (if (inR (nI j) 4 ∧ inR y 10 ∧ lt (nOf (nI j)) = 0 ∧ inI td 100000 z) then updN lD (nOf (nI j)) (nOf z) else lD) gv gn od br)]) s.heap := by rw [← ew18]; exact hP
            have hD : va_D A (fl [(wO kC ad td rn pn an jn tn bm fw gp ga bp fc fj rA rC ft kd aG sR sT wh dY pd cN mN sv nd wr tl (if (inR (nI j) 4 ∧ inR y 10 ∧ lt (nOf (nI j)) = 0 ∧ inI td 100000 z) then upd lt (nOf (nI j)) (nI 1) else lt) (if (inR (nI j) 4 ∧ inR y 10 ∧ lt (nOf (nI j)) = 0 ∧ inI td 100000 z) then updN lT (nOf (nI j)) (nOf y) else lT) (if (inR (nI j) 4 ∧ inR y 10 ∧ lt (nOf (nI j)) = 0 ∧ inI td 100000 z) then updN lD (nOf (nI j)) (nOf z) else lD) gv gn od br)]) := by rw [← ew18]; exact hD
            exact W.zret (v := nI 0) hx hb hr (nar_b (by first | exact Or.inl rfl | exact Or.inr rfl | exact bI_01)) (fun t ht hW => by subst hAe; exact ⟨⟨(nI 0), (), rfl, (bI_f hC).symm, by rw [ht]; exact hP, va_K.moved hW.alike hK, hD⟩, hS.F ht⟩) (by subst hAe; exact hS.2.2) d_O_lend_42

abbrev b_O_back : ByteArray := prog_9_method_40_code
def y_O_back : MethodName := ⟨"PartShelvesModel", "back", "(I)I"⟩
theorem d_O_back_0 : decode b_O_back 0 = .ok (.iload_n 1, 1) := by decide +kernel
theorem d_O_back_1 : decode b_O_back 1 = .ok (.ifCond .lt 17, 3) := by decide +kernel
theorem d_O_back_4 : decode b_O_back 4 = .ok (.iload_n 1, 1) := by decide +kernel
theorem d_O_back_5 : decode b_O_back 5 = .ok (.iconst 4, 1) := by decide +kernel
theorem d_O_back_6 : decode b_O_back 6 = .ok (.if_icmp .ge 12, 3) := by decide +kernel
theorem d_O_back_9 : decode b_O_back 9 = .ok (.aload_n 0, 1) := by decide +kernel
theorem d_O_back_10 : decode b_O_back 10 = .ok (.getfield 60, 3) := by decide +kernel
theorem d_O_back_13 : decode b_O_back 13 = .ok (.iload_n 1, 1) := by decide +kernel
theorem d_O_back_14 : decode b_O_back 14 = .ok (.baload, 1) := by decide +kernel
theorem d_O_back_15 : decode b_O_back 15 = .ok (.ifCond .ne 5, 3) := by decide +kernel
theorem d_O_back_18 : decode b_O_back 18 = .ok (.iconst (-1), 1) := by decide +kernel
theorem d_O_back_19 : decode b_O_back 19 = .ok (.ireturn, 1) := by decide +kernel
theorem d_O_back_20 : decode b_O_back 20 = .ok (.aload_n 0, 1) := by decide +kernel
theorem d_O_back_21 : decode b_O_back 21 = .ok (.getfield 60, 3) := by decide +kernel
theorem d_O_back_24 : decode b_O_back 24 = .ok (.iload_n 1, 1) := by decide +kernel
theorem d_O_back_25 : decode b_O_back 25 = .ok (.iconst 0, 1) := by decide +kernel
theorem d_O_back_26 : decode b_O_back 26 = .ok (.bastore, 1) := by decide +kernel
theorem d_O_back_27 : decode b_O_back 27 = .ok (.aload_n 0, 1) := by decide +kernel
theorem d_O_back_28 : decode b_O_back 28 = .ok (.getfield 63, 3) := by decide +kernel
theorem d_O_back_31 : decode b_O_back 31 = .ok (.iload_n 1, 1) := by decide +kernel
theorem d_O_back_32 : decode b_O_back 32 = .ok (.iaload, 1) := by decide +kernel
theorem d_O_back_33 : decode b_O_back 33 = .ok (.ireturn, 1) := by decide +kernel
def w_O_back : List Cond := .code y_O_back b_O_back 2 (some .int) :: ([.fieldLink "PartShelvesModel" 60 "PartShelvesModel" "lent" "[Z", .fieldLink "PartShelvesModel" 63 "PartShelvesModel" "lentTo" "[I"] ++ u_ws R_O F_O 36)
set_option maxHeartbeats 4000000 in
set_option maxRecDepth 100000 in
theorem c_O_back (l : Launch) (D : va_G) (kC : Nat → ClassId) (ad : Nat → Nat) (td : Nat) (rn : Nat) (pn : Nat) (an : Nat) (jn : Nat) (tn : Nat) (bm : Int32) (fw : Int64) (gp : Nat) (ga : Nat) (bp : Int32) (fc : Int64) (fj : Nat) (rA : Nat → Nat) (rC : Nat → Nat) (ft : Nat → Int32) (kd : Nat → Nat) (aG : Nat → Nat) (sR : Nat → Nat) (sT : Nat → Nat) (wh : Nat → Nat) (dY : Nat → Nat) (pd : Nat → Nat) (cN : Nat → Nat) (mN : Nat → Nat) (sv : Nat → Int32) (nd : Nat → Nat) (wr : Nat → Nat) (tl : Nat → Nat) (lt : Nat → Int32) (lT : Nat → Nat) (lD : Nat → Nat) (gv : Nat → Int32) (gn : Nat → Int64) (od : Nat → Nat) (br : Nat → Nat) (x : Int32) (sz : Nat) : Met l y_O_back w_O_back ({ frames := 0, cells := 0, slots := 0, locals := 0 } : Room) (gPre cls D (tyL kC) [.ref (ad 0), .int x] (fl [(wO kC ad td rn pn an jn tn bm fw gp ga bp fc fj rA rC ft kd aG sR sT wh dY pd cN mN sv nd wr tl lt lT lD gv gn od br)]) sz) (gQi cls D (tyL kC) (fl [(wO kC ad td rn pn an jn tn bm fw gp ga bp fc fj rA rC ft kd aG sR sT wh dY pd cN mN sv nd wr tl lt lT lD gv gn od br)]) sz (if (inR x 4 ∧ ¬ lt (nOf x) = 0) then nI (lT (nOf x)) else -1) (fl [(wO kC ad td rn pn an jn tn bm fw gp ga bp fc fj rA rC ft kd aG sR sT wh dY pd cN mN sv nd wr tl (if (inR x 4 ∧ ¬ lt (nOf x) = 0) then upd lt (nOf x) (nI 0) else lt) lT lD gv gn od br)])) 0 0 (va_A (fl [(wO kC ad td rn pn an jn tn bm fw gp ga bp fc fj rA rC ft kd aG sR sT wh dY pd cN mN sv nd wr tl lt lT lD gv gn od br)]) sz) := by
  refine Met.ofW (cc := b_O_back) (maxL := 2) (ret := (some .int)) (by decide) rfl ?_
  intro p e s m args below meth c s₁ B hml hv
  obtain ⟨rfl, hsz, hP, hK, hD0⟩ := hv
  have hx := B.exec
  have hb := B.bytes
  have hr := B.returns
  have hts := atoms_spec (ws := w_O_back) B.pre
  have hown : s.vm.findClass R_O = some m.cls := findClass_of_methodNamed B.named
  have hlocks := B.notSynchronized
  subst hsz
  obtain ⟨A, hAe⟩ : ∃ A : Nat → Prop, A = va_A (fl [(wO kC ad td rn pn an jn tn bm fw gp ga bp fc fj rA rC ft kd aG sR sT wh dY pd cN mN sv nd wr tl lt lT lD gv gn od br)]) s.heap.size := ⟨_, rfl⟩
  have hD : va_D A (fl [(wO kC ad td rn pn an jn tn bm fw gp ga bp fc fj rA rC ft kd aG sR sT wh dY pd cN mN sv nd wr tl lt lT lD gv gn od br)]) := by rw [hAe]; exact hD0.self
  have hA : ∀ q : Nat, s.heap.size ≤ q → A q := fun q h => by rw [hAe]; exact Or.inr h
  have hS : va_S A s.heap s.heap [] := va_S.rf
  have hl := lv_entry ([.ref (ad 0), .int x]) (n := 2) (Nat.le_of_ble_eq_true rfl)
  rw [lg_entry_eq]
  generalize (lg_sl ([.ref (ad 0), .int x]) ++ List.replicate (2 - (lg_sl ([.ref (ad 0), .int x])).length) Slot.unset).toArray = ls at hl ⊢
  have hl : lv_has ls 2 [(0, .ref (ad 0)), (1, .int x)] := hl
  refine lv_iload_n hx hb d_O_back_0 rfl (lv_at hl 1 rfl) ?_
  refine lv_if_lt (tgt := 18) hx hb d_O_back_1 (by decide) (fun h0 => ?_) (fun h0 => ?_)
  · have hC : ¬ (inR x 4 ∧ ¬ lt (nOf x) = 0) := fun q => by first | (have q2 := q.2; rw [nOf_nI (by omega)] at q2; exact q2 h2) | exact inR_ge (by decide) h1 q.1 | exact inR_lt h0 q.1
    refine lv_iconst (v := (-1)) hx hb d_O_back_18 (by decide) ?_
    have ew1 : lt = (if (inR x 4 ∧ ¬ lt (nOf x) = 0) then upd lt (nOf x) (nI 0) else lt) := (if_neg hC).symm
    have hP : va_P D cls (fl [(wO kC ad td rn pn an jn tn bm fw gp ga bp fc fj rA rC ft kd aG sR sT wh dY pd cN mN sv nd wr tl (if (inR x 4 ∧ ¬ lt (nOf x) = 0) then upd lt (nOf x) (nI 0) else lt) lT lD gv gn od br)]) s.heap := by rw [← ew1]; exact hP
    have hD : va_D A (fl [(wO kC ad td rn pn an jn tn bm fw gp ga bp fc fj rA rC ft kd aG sR sT wh dY pd cN mN sv nd wr tl (if (inR x 4 ∧ ¬ lt (nOf x) = 0) then upd lt (nOf x) (nI 0) else lt) lT lD gv gn od br)]) := by rw [← ew1]; exact hD
    exact W.iret (v := (-1)) hx hb hr (fun t ht hW => by subst hAe; exact ⟨⟨(-1), (), rfl, (if_neg hC).symm, by rw [ht]; exact hP, va_K.moved hW.alike hK, hD⟩, hS.F ht⟩) (by subst hAe; exact hS.2.2) d_O_back_19
  · refine lv_iload_n hx hb d_O_back_4 rfl (lv_at hl 1 rfl) ?_
    refine lv_iconst (v := nI 4) hx hb d_O_back_5 (by decide) ?_
    refine lv_icmp_ge (tgt := 18) hx hb d_O_back_6 (by decide) (fun h1 => ?_) (fun h1 => ?_)
    · have hC : ¬ (inR x 4 ∧ ¬ lt (nOf x) = 0) := fun q => by first | (have q2 := q.2; rw [nOf_nI (by omega)] at q2; exact q2 h2) | exact inR_ge (by decide) h1 q.1 | exact inR_lt h0 q.1
      refine lv_iconst (v := (-1)) hx hb d_O_back_18 (by decide) ?_
      have ew2 : lt = (if (inR x 4 ∧ ¬ lt (nOf x) = 0) then upd lt (nOf x) (nI 0) else lt) := (if_neg hC).symm
      have hP : va_P D cls (fl [(wO kC ad td rn pn an jn tn bm fw gp ga bp fc fj rA rC ft kd aG sR sT wh dY pd cN mN sv nd wr tl (if (inR x 4 ∧ ¬ lt (nOf x) = 0) then upd lt (nOf x) (nI 0) else lt) lT lD gv gn od br)]) s.heap := by rw [← ew2]; exact hP
      have hD : va_D A (fl [(wO kC ad td rn pn an jn tn bm fw gp ga bp fc fj rA rC ft kd aG sR sT wh dY pd cN mN sv nd wr tl (if (inR x 4 ∧ ¬ lt (nOf x) = 0) then upd lt (nOf x) (nI 0) else lt) lT lD gv gn od br)]) := by rw [← ew2]; exact hD
      exact W.iret (v := (-1)) hx hb hr (fun t ht hW => by subst hAe; exact ⟨⟨(-1), (), rfl, (if_neg hC).symm, by rw [ht]; exact hP, va_K.moved hW.alike hK, hD⟩, hS.F ht⟩) (by subst hAe; exact hS.2.2) d_O_back_19
    · obtain ⟨j, hj, rfl⟩ := in_of (by decide) h0 h1
      refine lv_aload_n hx hb d_O_back_9 rfl (lv_at hl 0 rfl) ?_
      refine fv_get (ci := 7) (v := .ref (ad 17)) (C := R_O) (T := F_O) (N := 36) hx hb hts (by decide +kernel) hown hK hP 0 0 rfl rfl rfl 22 (by decide) (hts (.fieldLink R_O 60 "PartShelvesModel" "lent" "[Z") (by decide +kernel)) (fun _ h9 => h9) rfl d_O_back_10 ?_
      refine lv_iload_n hx hb d_O_back_13 rfl (lv_at hl 1 rfl) ?_
      refine fa_zald hx hb hK hP 0 17 2 rfl rfl rfl (by omega) (by decide) d_O_back_14 ?_
      refine lv_if_ne (tgt := 20) hx hb d_O_back_15 (by decide) (fun h2 => ?_) (fun h2 => ?_)
      · have hC : (inR (nI j) 4 ∧ ¬ lt (nOf (nI j)) = 0) := ⟨(inR_nI (by omega)).mpr hj, by rw [nOf_nI (by omega)]; exact h2⟩
        refine lv_aload_n hx hb d_O_back_20 rfl (lv_at hl 0 rfl) ?_
        refine fv_get (ci := 7) (v := .ref (ad 17)) (C := R_O) (T := F_O) (N := 36) hx hb hts (by decide +kernel) hown hK hP 0 0 rfl rfl rfl 22 (by decide) (hts (.fieldLink R_O 60 "PartShelvesModel" "lent" "[Z") (by decide +kernel)) (fun _ h9 => h9) rfl d_O_back_21 ?_
        refine lv_iload_n hx hb d_O_back_24 rfl (lv_at hl 1 rfl) ?_
        refine lv_iconst (v := nI 0) hx hb d_O_back_25 (by decide) ?_
        refine fa_zast hx hb hK hP hD hS 0 17 2 rfl rfl rfl (by decide) (by omega) (by decide) d_O_back_26 (fun H locs hP hD hS => ?_)
        have hP : va_P D cls (fl [(wO kC ad td rn pn an jn tn bm fw gp ga bp fc fj rA rC ft kd aG sR sT wh dY pd cN mN sv nd wr tl (upd lt j (nI 0)) lT lD gv gn od br)]) H := hP
        have hD : va_D A (fl [(wO kC ad td rn pn an jn tn bm fw gp ga bp fc fj rA rC ft kd aG sR sT wh dY pd cN mN sv nd wr tl (upd lt j (nI 0)) lT lD gv gn od br)]) := hD
        refine lv_aload_n hx hb d_O_back_27 rfl (lv_at hl 0 rfl) ?_
        refine fv_get (ci := 7) (v := .ref (ad 18)) (C := R_O) (T := F_O) (N := 36) hx hb hts (by decide +kernel) hown hK hP 0 0 rfl rfl rfl 23 (by decide) (hts (.fieldLink R_O 63 "PartShelvesModel" "lentTo" "[I") (by decide +kernel)) (fun _ h9 => h9) rfl d_O_back_28 ?_
        refine lv_iload_n hx hb d_O_back_31 rfl (lv_at hl 1 rfl) ?_
        refine fa_ialdN hx hb hK hP 0 18 0 rfl rfl rfl (by omega) (by decide) d_O_back_32 ?_
        have ew3 : (upd lt j (nI 0)) = (if (inR (nI j) 4 ∧ ¬ lt (nOf (nI j)) = 0) then upd lt (nOf (nI j)) (nI 0) else lt) := by rw [if_pos hC, nOf_nI (by omega)]
        have hP : va_P D cls (fl [(wO kC ad td rn pn an jn tn bm fw gp ga bp fc fj rA rC ft kd aG sR sT wh dY pd cN mN sv nd wr tl (if (inR (nI j) 4 ∧ ¬ lt (nOf (nI j)) = 0) then upd lt (nOf (nI j)) (nI 0) else lt) lT lD gv gn od br)]) H := by rw [← ew3]; exact hP
        have hD : va_D A (fl [(wO kC ad td rn pn an jn tn bm fw gp ga bp fc fj rA rC ft kd aG sR sT wh dY pd cN mN sv nd wr tl (if (inR (nI j) 4 ∧ ¬ lt (nOf (nI j)) = 0) then upd lt (nOf (nI j)) (nI 0) else lt) lT lD gv gn od br)]) := by rw [← ew3]; exact hD
        exact W.iret (v := nI (lT j)) hx hb hr (fun t ht hW => by subst hAe; exact ⟨⟨(nI (lT j)), (), rfl, by rw [if_pos hC, nOf_nI (by omega)], by rw [ht]; exact hP, va_K.moved hW.alike hK, hD⟩, hS.F ht⟩) (by subst hAe; exact hS.2.2) d_O_back_33
      · have hC : ¬ (inR (nI j) 4 ∧ ¬ lt (nOf (nI j)) = 0) := fun q => by first | (have q2 := q.2; rw [nOf_nI (by omega)] at q2; exact q2 h2) | exact inR_ge (by decide) h1 q.1 | exact inR_lt h0 q.1
        refine lv_iconst (v := (-1)) hx hb d_O_back_18 (by decide) ?_
        have ew4 : lt = (if (inR (nI j) 4 ∧ ¬ lt (nOf (nI j)) = 0) then upd lt (nOf (nI j)) (nI 0) else lt) := (if_neg hC).symm
        have hP : va_P D cls (fl [(wO kC ad td rn pn an jn tn bm fw gp ga bp fc fj rA rC ft kd aG sR sT wh dY pd cN mN sv nd wr tl (if (inR (nI j) 4 ∧ ¬ lt (nOf (nI j)) = 0) then upd lt (nOf (nI j)) (nI 0) else lt) lT lD gv gn od br)]) s.heap := by rw [← ew4]; exact hP
        have hD : va_D A (fl [(wO kC ad td rn pn an jn tn bm fw gp ga bp fc fj rA rC ft kd aG sR sT wh dY pd cN mN sv nd wr tl (if (inR (nI j) 4 ∧ ¬ lt (nOf (nI j)) = 0) then upd lt (nOf (nI j)) (nI 0) else lt) lT lD gv gn od br)]) := by rw [← ew4]; exact hD
        exact W.iret (v := (-1)) hx hb hr (fun t ht hW => by subst hAe; exact ⟨⟨(-1), (), rfl, (if_neg hC).symm, by rw [ht]; exact hP, va_K.moved hW.alike hK, hD⟩, hS.F ht⟩) (by subst hAe; exact hS.2.2) d_O_back_19

abbrev b_O_late : ByteArray := prog_9_method_41_code
def y_O_late : MethodName := ⟨"PartShelvesModel", "late", "(I)I"⟩
theorem d_O_late_0 : decode b_O_late 0 = .ok (.iconst 0, 1) := by decide +kernel
theorem d_O_late_1 : decode b_O_late 1 = .ok (.istore_n 2, 1) := by decide +kernel
theorem d_O_late_2 : decode b_O_late 2 = .ok (.iconst 0, 1) := by decide +kernel
theorem d_O_late_3 : decode b_O_late 3 = .ok (.istore_n 3, 1) := by decide +kernel
theorem d_O_late_4 : decode b_O_late 4 = .ok (.iload_n 3, 1) := by decide +kernel
theorem d_O_late_5 : decode b_O_late 5 = .ok (.iconst 4, 1) := by decide +kernel
theorem d_O_late_6 : decode b_O_late 6 = .ok (.if_icmp .ge 63, 3) := by decide +kernel
theorem d_O_late_9 : decode b_O_late 9 = .ok (.aload_n 0, 1) := by decide +kernel
theorem d_O_late_10 : decode b_O_late 10 = .ok (.getfield 60, 3) := by decide +kernel
theorem d_O_late_13 : decode b_O_late 13 = .ok (.iload_n 3, 1) := by decide +kernel
theorem d_O_late_14 : decode b_O_late 14 = .ok (.baload, 1) := by decide +kernel
theorem d_O_late_15 : decode b_O_late 15 = .ok (.ifCond .eq 20, 3) := by decide +kernel
theorem d_O_late_18 : decode b_O_late 18 = .ok (.aload_n 0, 1) := by decide +kernel
theorem d_O_late_19 : decode b_O_late 19 = .ok (.getfield 66, 3) := by decide +kernel
theorem d_O_late_22 : decode b_O_late 22 = .ok (.iload_n 3, 1) := by decide +kernel
theorem d_O_late_23 : decode b_O_late 23 = .ok (.iaload, 1) := by decide +kernel
theorem d_O_late_24 : decode b_O_late 24 = .ok (.aload_n 0, 1) := by decide +kernel
theorem d_O_late_25 : decode b_O_late 25 = .ok (.getfield 88, 3) := by decide +kernel
theorem d_O_late_28 : decode b_O_late 28 = .ok (.if_icmp .ge 7, 3) := by decide +kernel
theorem d_O_late_31 : decode b_O_late 31 = .ok (.iconst 1, 1) := by decide +kernel
theorem d_O_late_32 : decode b_O_late 32 = .ok (.goto 4, 3) := by decide +kernel
theorem d_O_late_35 : decode b_O_late 35 = .ok (.iconst 0, 1) := by decide +kernel
theorem d_O_late_36 : decode b_O_late 36 = .ok (.istore 4, 2) := by decide +kernel
theorem d_O_late_38 : decode b_O_late 38 = .ok (.iload 4, 2) := by decide +kernel
theorem d_O_late_40 : decode b_O_late 40 = .ok (.ifCond .eq 10, 3) := by decide +kernel
theorem d_O_late_43 : decode b_O_late 43 = .ok (.iload_n 2, 1) := by decide +kernel
theorem d_O_late_44 : decode b_O_late 44 = .ok (.iload_n 1, 1) := by decide +kernel
theorem d_O_late_45 : decode b_O_late 45 = .ok (.if_icmp .ne 5, 3) := by decide +kernel
theorem d_O_late_48 : decode b_O_late 48 = .ok (.iload_n 3, 1) := by decide +kernel
theorem d_O_late_49 : decode b_O_late 49 = .ok (.ireturn, 1) := by decide +kernel
theorem d_O_late_50 : decode b_O_late 50 = .ok (.iload_n 2, 1) := by decide +kernel
theorem d_O_late_51 : decode b_O_late 51 = .ok (.iload 4, 2) := by decide +kernel
theorem d_O_late_53 : decode b_O_late 53 = .ok (.ifCond .eq 7, 3) := by decide +kernel
theorem d_O_late_56 : decode b_O_late 56 = .ok (.iconst 1, 1) := by decide +kernel
theorem d_O_late_57 : decode b_O_late 57 = .ok (.goto 4, 3) := by decide +kernel
theorem d_O_late_60 : decode b_O_late 60 = .ok (.iconst 0, 1) := by decide +kernel
theorem d_O_late_61 : decode b_O_late 61 = .ok (.iadd, 1) := by decide +kernel
theorem d_O_late_62 : decode b_O_late 62 = .ok (.istore_n 2, 1) := by decide +kernel
theorem d_O_late_63 : decode b_O_late 63 = .ok (.iinc 3 1, 3) := by decide +kernel
theorem d_O_late_66 : decode b_O_late 66 = .ok (.goto (-62), 3) := by decide +kernel
theorem d_O_late_69 : decode b_O_late 69 = .ok (.iconst (-1), 1) := by decide +kernel
theorem d_O_late_70 : decode b_O_late 70 = .ok (.ireturn, 1) := by decide +kernel
def w_O_late : List Cond := .code y_O_late b_O_late 5 (some .int) :: ([.fieldLink "PartShelvesModel" 60 "PartShelvesModel" "lent" "[Z", .fieldLink "PartShelvesModel" 66 "PartShelvesModel" "lentDay" "[I", .fieldLink "PartShelvesModel" 88 "PartShelvesModel" "today" "I"] ++ u_ws R_O F_O 36)
set_option maxHeartbeats 4000000 in
set_option maxRecDepth 100000 in
theorem c_O_late (l : Launch) (D : va_G) (kC : Nat → ClassId) (ad : Nat → Nat) (td : Nat) (rn : Nat) (pn : Nat) (an : Nat) (jn : Nat) (tn : Nat) (bm : Int32) (fw : Int64) (gp : Nat) (ga : Nat) (bp : Int32) (fc : Int64) (fj : Nat) (rA : Nat → Nat) (rC : Nat → Nat) (ft : Nat → Int32) (kd : Nat → Nat) (aG : Nat → Nat) (sR : Nat → Nat) (sT : Nat → Nat) (wh : Nat → Nat) (dY : Nat → Nat) (pd : Nat → Nat) (cN : Nat → Nat) (mN : Nat → Nat) (sv : Nat → Int32) (nd : Nat → Nat) (wr : Nat → Nat) (tl : Nat → Nat) (lt : Nat → Int32) (lT : Nat → Nat) (lD : Nat → Nat) (gv : Nat → Int32) (gn : Nat → Int64) (od : Nat → Nat) (br : Nat → Nat) (x : Int32) (htd : td ≤ 100000) (hlD : ∀ j, lD j ≤ 100000) : Met l y_O_late w_O_late ({ frames := 0, cells := 0, slots := 0, locals := 0 } : Room) (gPr cls D (tyL kC) [.ref (ad 0), .int x] (fl [(wO kC ad td rn pn an jn tn bm fw gp ga bp fc fj rA rC ft kd aG sR sT wh dY pd cN mN sv nd wr tl lt lT lD gv gn od br)])) (vp_Si (fun r => r = lateM lt lD td x 4 0 0)) 0 0 (fun _ => False) := by
  refine Met.ofW (cc := b_O_late) (maxL := 5) (ret := (some .int)) (by decide) rfl ?_
  intro p e s m args below meth c s₁ B hml hv
  obtain ⟨rfl, hP, hK⟩ := hv
  have hx := B.exec
  have hb := B.bytes
  have hr := B.returns
  have hts := atoms_spec (ws := w_O_late) B.pre
  have hown : s.vm.findClass R_O = some m.cls := findClass_of_methodNamed B.named
  have hlocks := B.notSynchronized
  have hl := lv_entry ([.ref (ad 0), .int x]) (n := 5) (Nat.le_of_ble_eq_true rfl)
  rw [lg_entry_eq]
  generalize (lg_sl ([.ref (ad 0), .int x]) ++ List.replicate (5 - (lg_sl ([.ref (ad 0), .int x])).length) Slot.unset).toArray = ls at hl ⊢
  have hl : lv_has ls 5 [(0, .ref (ad 0)), (1, .int x)] := hl
  refine lv_iconst (v := nI 0) hx hb d_O_late_0 (by decide) ?_
  refine lv_istore_n (lv' := [(2, .int (nI 0)), (0, .ref (ad 0)), (1, .int x)]) hx hb d_O_late_1 rfl hl (by decide) rfl (fun ls hl => ?_)
  refine lv_iconst (v := nI 0) hx hb d_O_late_2 (by decide) ?_
  refine lv_istore_n (lv' := [(3, .int (nI 0)), (2, .int (nI 0)), (0, .ref (ad 0)), (1, .int x)]) hx hb d_O_late_3 rfl hl (by decide) rfl (fun ls hl => ?_)
  have L4 : ∀ (n4 : Nat) (t : Nat) (z : Nat) (f : Nat), f < n4 → t + f = 4 → z ≤ t → lateM lt lD td x f t z = lateM lt lD td x 4 0 0 → ∀ (ls : Array Slot), lv_has ls 5 [(0, .ref (ad 0)), (1, .int x), (2, .int (nI z)), (3, .int (nI t))] → W p l e (headSpec w_O_late ({ frames := 0, cells := 0, slots := 0, locals := 0 } : Room)).room s m ([.ref (ad 0), .int x] : List Value).toArray below meth c s.heap [] 0 0 (MQ below (vp_Si (fun r => r = lateM lt lD td x 4 0 0)) ([.ref (ad 0), .int x] : List Value).toArray s 0 0 (fun _ => False)) (F0 m 4 ls []) := by
    intro n4
    induction n4 with
    | zero =>
      intro t z f hm
      exact absurd hm (Nat.not_lt_zero _)
    | succ n4 ih4 =>
      intro t z f hm hf hz hL ls hl
      refine lv_iload_n hx hb d_O_late_4 rfl (lv_at hl 3 rfl) ?_
      refine lv_iconst (v := nI 4) hx hb d_O_late_5 (by decide) ?_
      refine nv_icmp_ge (tgt := 69) hx hb d_O_late_6 (by decide) (by omega) (by omega) (fun h0 => ?_) (fun h0 => ?_)
      · obtain rfl : f = 0 := by omega
        refine lv_iconst (v := (-1)) hx hb d_O_late_69 (by decide) ?_
        exact W.iret (v := (-1)) hx hb hr (fun t ht hW => ⟨_, rfl, hL, ht⟩) t_nil d_O_late_70
      · obtain ⟨g, rfl⟩ : ∃ g, f = g + 1 := ⟨f - 1, by omega⟩
        refine lv_aload_n hx hb d_O_late_9 rfl (lv_at hl 0 rfl) ?_
        refine fv_get (ci := 7) (v := .ref (ad 17)) (C := R_O) (T := F_O) (N := 36) hx hb hts (by decide +kernel) hown hK hP 0 0 rfl rfl rfl 22 (by decide) (hts (.fieldLink R_O 60 "PartShelvesModel" "lent" "[Z") (by decide +kernel)) (fun _ h9 => h9) rfl d_O_late_10 ?_
        refine lv_iload_n hx hb d_O_late_13 rfl (lv_at hl 3 rfl) ?_
        refine fa_zald hx hb hK hP 0 17 2 rfl rfl rfl (by omega) (by decide) d_O_late_14 ?_
        refine lv_if_eq (tgt := 35) hx hb d_O_late_15 (by decide) (fun h1 => ?_) (fun h1 => ?_)
        · refine lv_iconst (v := nI 0) hx hb d_O_late_35 (by decide) ?_
          refine lv_istore (lv' := [(4, .int (nI 0)), (0, .ref (ad 0)), (1, .int x), (2, .int (nI z)), (3, .int (nI t))]) hx hb d_O_late_36 hl (by decide) rfl (fun ls hl => ?_)
          refine lv_iload hx hb d_O_late_38 (lv_at hl 0 rfl) ?_
          refine nv_if_eq (tgt := 50) hx hb d_O_late_40 (by decide) (by decide) (fun c1 => ?_) (fun c1 => ?_)
          · refine lv_iload_n hx hb d_O_late_50 rfl (lv_at hl 3 rfl) ?_
            refine lv_iload hx hb d_O_late_51 (lv_at hl 0 rfl) ?_
            refine nv_if_eq (tgt := 60) hx hb d_O_late_53 (by decide) (by decide) (fun c2 => ?_) (fun c2 => ?_)
            · refine lv_iconst (v := nI 0) hx hb d_O_late_60 (by decide) ?_
              refine nv_iadd hx hb d_O_late_61 ?_
              refine lv_istore_n (lv' := [(2, .int (nI (z + 0))), (4, .int (nI 0)), (0, .ref (ad 0)), (1, .int x), (3, .int (nI t))]) hx hb d_O_late_62 rfl hl (by decide) rfl (fun ls hl => ?_)
              refine lv_iinc (v := nI (t + 1)) (lv' := [(3, .int (nI (t + 1))), (2, .int (nI (z + 0))), (4, .int (nI 0)), (0, .ref (ad 0)), (1, .int x)]) hx hb d_O_late_63 hl (k := 4) rfl (nI_1 t) (by decide) rfl (fun ls hl => ?_)
              refine lv_goto (tgt := 4) hx hb d_O_late_66 (by decide) ?_
              exact ih4 (t + 1) (z + 0) g (by omega) (by omega) (by omega) (by rw [← hL]; exact (if_neg (fun q => by first | exact q.1 h1 | (have := q.2; omega))).symm) ls (lv_sub hl [3, 4, 1, 0] rfl)
            · exact absurd c2 (by decide)
          · exact absurd c1 (by decide)
        · refine lv_aload_n hx hb d_O_late_18 rfl (lv_at hl 0 rfl) ?_
          refine fv_get (ci := 7) (v := .ref (ad 19)) (C := R_O) (T := F_O) (N := 36) hx hb hts (by decide +kernel) hown hK hP 0 0 rfl rfl rfl 24 (by decide) (hts (.fieldLink R_O 66 "PartShelvesModel" "lentDay" "[I") (by decide +kernel)) (fun _ h9 => h9) rfl d_O_late_19 ?_
          refine lv_iload_n hx hb d_O_late_22 rfl (lv_at hl 3 rfl) ?_
          refine fa_ialdN hx hb hK hP 0 19 0 rfl rfl rfl (by omega) (by decide) d_O_late_23 ?_
          refine lv_aload_n hx hb d_O_late_24 rfl (lv_at hl 0 rfl) ?_
          refine fv_get (ci := 7) (v := .int (nI td)) (C := R_O) (T := F_O) (N := 36) hx hb hts (by decide +kernel) hown hK hP 0 0 rfl rfl rfl 0 (by decide) (hts (.fieldLink R_O 88 "PartShelvesModel" "today" "I") (by decide +kernel)) (fun _ h9 => h9) rfl d_O_late_25 ?_
          refine nv_icmp_ge (tgt := 35) hx hb d_O_late_28 (by decide) (by have := hlD t; omega) (by omega) (fun h2 => ?_) (fun h2 => ?_)
          · refine lv_iconst (v := nI 0) hx hb d_O_late_35 (by decide) ?_
            refine lv_istore (lv' := [(4, .int (nI 0)), (0, .ref (ad 0)), (1, .int x), (2, .int (nI z)), (3, .int (nI t))]) hx hb d_O_late_36 hl (by decide) rfl (fun ls hl => ?_)
            refine lv_iload hx hb d_O_late_38 (lv_at hl 0 rfl) ?_
            refine nv_if_eq (tgt := 50) hx hb d_O_late_40 (by decide) (by decide) (fun c3 => ?_) (fun c3 => ?_)
            · refine lv_iload_n hx hb d_O_late_50 rfl (lv_at hl 3 rfl) ?_
              refine lv_iload hx hb d_O_late_51 (lv_at hl 0 rfl) ?_
              refine nv_if_eq (tgt := 60) hx hb d_O_late_53 (by decide) (by decide) (fun c4 => ?_) (fun c4 => ?_)
              · refine lv_iconst (v := nI 0) hx hb d_O_late_60 (by decide) ?_
                refine nv_iadd hx hb d_O_late_61 ?_
                refine lv_istore_n (lv' := [(2, .int (nI (z + 0))), (4, .int (nI 0)), (0, .ref (ad 0)), (1, .int x), (3, .int (nI t))]) hx hb d_O_late_62 rfl hl (by decide) rfl (fun ls hl => ?_)
                refine lv_iinc (v := nI (t + 1)) (lv' := [(3, .int (nI (t + 1))), (2, .int (nI (z + 0))), (4, .int (nI 0)), (0, .ref (ad 0)), (1, .int x)]) hx hb d_O_late_63 hl (k := 4) rfl (nI_1 t) (by decide) rfl (fun ls hl => ?_)
                refine lv_goto (tgt := 4) hx hb d_O_late_66 (by decide) ?_
                exact ih4 (t + 1) (z + 0) g (by omega) (by omega) (by omega) (by rw [← hL]; exact (if_neg (fun q => by first | exact q.1 h1 | (have := q.2; omega))).symm) ls (lv_sub hl [3, 4, 1, 0] rfl)
              · exact absurd c4 (by decide)
            · exact absurd c3 (by decide)
          · refine lv_iconst (v := nI 1) hx hb d_O_late_31 (by decide) ?_
            refine lv_goto (tgt := 36) hx hb d_O_late_32 (by decide) ?_
            refine lv_istore (lv' := [(4, .int (nI 1)), (0, .ref (ad 0)), (1, .int x), (2, .int (nI z)), (3, .int (nI t))]) hx hb d_O_late_36 hl (by decide) rfl (fun ls hl => ?_)
            refine lv_iload hx hb d_O_late_38 (lv_at hl 0 rfl) ?_
            refine nv_if_eq (tgt := 50) hx hb d_O_late_40 (by decide) (by decide) (fun c5 => ?_) (fun c5 => ?_)
            · exact absurd c5 (by decide)
            · refine lv_iload_n hx hb d_O_late_43 rfl (lv_at hl 3 rfl) ?_
              refine lv_iload_n hx hb d_O_late_44 rfl (lv_at hl 2 rfl) ?_
              refine lv_icmp_ne (tgt := 50) hx hb d_O_late_45 (by decide) (fun h3 => ?_) (fun h3 => ?_)
              · refine lv_iload_n hx hb d_O_late_50 rfl (lv_at hl 3 rfl) ?_
                refine lv_iload hx hb d_O_late_51 (lv_at hl 0 rfl) ?_
                refine nv_if_eq (tgt := 60) hx hb d_O_late_53 (by decide) (by decide) (fun c6 => ?_) (fun c6 => ?_)
                · exact absurd c6 (by decide)
                · refine lv_iconst (v := nI 1) hx hb d_O_late_56 (by decide) ?_
                  refine lv_goto (tgt := 61) hx hb d_O_late_57 (by decide) ?_
                  refine nv_iadd hx hb d_O_late_61 ?_
                  refine lv_istore_n (lv' := [(2, .int (nI (z + 1))), (4, .int (nI 1)), (0, .ref (ad 0)), (1, .int x), (3, .int (nI t))]) hx hb d_O_late_62 rfl hl (by decide) rfl (fun ls hl => ?_)
                  refine lv_iinc (v := nI (t + 1)) (lv' := [(3, .int (nI (t + 1))), (2, .int (nI (z + 1))), (4, .int (nI 1)), (0, .ref (ad 0)), (1, .int x)]) hx hb d_O_late_63 hl (k := 4) rfl (nI_1 t) (by decide) rfl (fun ls hl => ?_)
                  refine lv_goto (tgt := 4) hx hb d_O_late_66 (by decide) ?_
                  exact ih4 (t + 1) (z + 1) g (by omega) (by omega) (by omega) (by rw [← hL]; simp only [lateM]; rw [if_pos ⟨h1, h2⟩, if_neg h3]) ls (lv_sub hl [3, 4, 1, 0] rfl)
              · refine lv_iload_n hx hb d_O_late_48 rfl (lv_at hl 4 rfl) ?_
                exact W.iret (v := nI t) hx hb hr (fun t ht hW => ⟨_, rfl, by rw [← hL]; simp only [lateM]; rw [if_pos ⟨h1, h2⟩, if_pos h3], ht⟩) t_nil d_O_late_49
  exact L4 _ 0 0 4 (Nat.lt_succ_self _) (rfl) (Nat.le_refl _) (rfl) ls (lv_sub hl [2, 3, 1, 0] rfl)

abbrev b_O_recall : ByteArray := prog_9_method_37_code
def y_O_recall : MethodName := ⟨"PartShelvesModel", "recall", "(IJJ)I"⟩
theorem d_O_recall_0 : decode b_O_recall 0 = .ok (.iload_n 1, 1) := by decide +kernel
theorem d_O_recall_1 : decode b_O_recall 1 = .ok (.invokestatic 102, 3) := by decide +kernel
theorem d_O_recall_4 : decode b_O_recall 4 = .ok (.ifCond .ne 5, 3) := by decide +kernel
theorem d_O_recall_7 : decode b_O_recall 7 = .ok (.iconst (-1), 1) := by decide +kernel
theorem d_O_recall_8 : decode b_O_recall 8 = .ok (.ireturn, 1) := by decide +kernel
theorem d_O_recall_9 : decode b_O_recall 9 = .ok (.aload_n 0, 1) := by decide +kernel
theorem d_O_recall_10 : decode b_O_recall 10 = .ok (.iconst 0, 1) := by decide +kernel
theorem d_O_recall_11 : decode b_O_recall 11 = .ok (.putfield 183, 3) := by decide +kernel
theorem d_O_recall_14 : decode b_O_recall 14 = .ok (.iconst 0, 1) := by decide +kernel
theorem d_O_recall_15 : decode b_O_recall 15 = .ok (.istore 6, 2) := by decide +kernel
theorem d_O_recall_17 : decode b_O_recall 17 = .ok (.iload 6, 2) := by decide +kernel
theorem d_O_recall_19 : decode b_O_recall 19 = .ok (.aload_n 0, 1) := by decide +kernel
theorem d_O_recall_20 : decode b_O_recall 20 = .ok (.getfield 81, 3) := by decide +kernel
theorem d_O_recall_23 : decode b_O_recall 23 = .ok (.if_icmp .ge 99, 3) := by decide +kernel
theorem d_O_recall_26 : decode b_O_recall 26 = .ok (.aload_n 0, 1) := by decide +kernel
theorem d_O_recall_27 : decode b_O_recall 27 = .ok (.getfield 21, 3) := by decide +kernel
theorem d_O_recall_30 : decode b_O_recall 30 = .ok (.iload 6, 2) := by decide +kernel
theorem d_O_recall_32 : decode b_O_recall 32 = .ok (.iaload, 1) := by decide +kernel
theorem d_O_recall_33 : decode b_O_recall 33 = .ok (.iload_n 1, 1) := by decide +kernel
theorem d_O_recall_34 : decode b_O_recall 34 = .ok (.if_icmp .ne 82, 3) := by decide +kernel
theorem d_O_recall_37 : decode b_O_recall 37 = .ok (.aload_n 0, 1) := by decide +kernel
theorem d_O_recall_38 : decode b_O_recall 38 = .ok (.getfield 27, 3) := by decide +kernel
theorem d_O_recall_41 : decode b_O_recall 41 = .ok (.iload 6, 2) := by decide +kernel
theorem d_O_recall_43 : decode b_O_recall 43 = .ok (.laload, 1) := by decide +kernel
theorem d_O_recall_44 : decode b_O_recall 44 = .ok (.lload_n 2, 1) := by decide +kernel
theorem d_O_recall_45 : decode b_O_recall 45 = .ok (.lcmp, 1) := by decide +kernel
theorem d_O_recall_46 : decode b_O_recall 46 = .ok (.ifCond .lt 70, 3) := by decide +kernel
theorem d_O_recall_49 : decode b_O_recall 49 = .ok (.aload_n 0, 1) := by decide +kernel
theorem d_O_recall_50 : decode b_O_recall 50 = .ok (.getfield 27, 3) := by decide +kernel
theorem d_O_recall_53 : decode b_O_recall 53 = .ok (.iload 6, 2) := by decide +kernel
theorem d_O_recall_55 : decode b_O_recall 55 = .ok (.laload, 1) := by decide +kernel
theorem d_O_recall_56 : decode b_O_recall 56 = .ok (.lload 4, 2) := by decide +kernel
theorem d_O_recall_58 : decode b_O_recall 58 = .ok (.lcmp, 1) := by decide +kernel
theorem d_O_recall_59 : decode b_O_recall 59 = .ok (.ifCond .gt 57, 3) := by decide +kernel
theorem d_O_recall_62 : decode b_O_recall 62 = .ok (.aload_n 0, 1) := by decide +kernel
theorem d_O_recall_63 : decode b_O_recall 63 = .ok (.getfield 30, 3) := by decide +kernel
theorem d_O_recall_66 : decode b_O_recall 66 = .ok (.iload 6, 2) := by decide +kernel
theorem d_O_recall_68 : decode b_O_recall 68 = .ok (.iaload, 1) := by decide +kernel
theorem d_O_recall_69 : decode b_O_recall 69 = .ok (.iconst 2, 1) := by decide +kernel
theorem d_O_recall_70 : decode b_O_recall 70 = .ok (.if_icmp .ne 38, 3) := by decide +kernel
theorem d_O_recall_73 : decode b_O_recall 73 = .ok (.aload_n 0, 1) := by decide +kernel
theorem d_O_recall_74 : decode b_O_recall 74 = .ok (.getfield 57, 3) := by decide +kernel
theorem d_O_recall_77 : decode b_O_recall 77 = .ok (.aload_n 0, 1) := by decide +kernel
theorem d_O_recall_78 : decode b_O_recall 78 = .ok (.getfield 183, 3) := by decide +kernel
theorem d_O_recall_81 : decode b_O_recall 81 = .ok (.bipush 10, 2) := by decide +kernel
theorem d_O_recall_83 : decode b_O_recall 83 = .ok (.iload 6, 2) := by decide +kernel
theorem d_O_recall_85 : decode b_O_recall 85 = .ok (.imul, 1) := by decide +kernel
theorem d_O_recall_86 : decode b_O_recall 86 = .ok (.aload_n 0, 1) := by decide +kernel
theorem d_O_recall_87 : decode b_O_recall 87 = .ok (.getfield 33, 3) := by decide +kernel
theorem d_O_recall_90 : decode b_O_recall 90 = .ok (.iload 6, 2) := by decide +kernel
theorem d_O_recall_92 : decode b_O_recall 92 = .ok (.iaload, 1) := by decide +kernel
theorem d_O_recall_93 : decode b_O_recall 93 = .ok (.iadd, 1) := by decide +kernel
theorem d_O_recall_94 : decode b_O_recall 94 = .ok (.iastore, 1) := by decide +kernel
theorem d_O_recall_95 : decode b_O_recall 95 = .ok (.aload_n 0, 1) := by decide +kernel
theorem d_O_recall_96 : decode b_O_recall 96 = .ok (.dup, 1) := by decide +kernel
theorem d_O_recall_97 : decode b_O_recall 97 = .ok (.getfield 183, 3) := by decide +kernel
theorem d_O_recall_100 : decode b_O_recall 100 = .ok (.iconst 1, 1) := by decide +kernel
theorem d_O_recall_101 : decode b_O_recall 101 = .ok (.iadd, 1) := by decide +kernel
theorem d_O_recall_102 : decode b_O_recall 102 = .ok (.putfield 183, 3) := by decide +kernel
theorem d_O_recall_105 : decode b_O_recall 105 = .ok (.goto 11, 3) := by decide +kernel
theorem d_O_recall_108 : decode b_O_recall 108 = .ok (.aload_n 0, 1) := by decide +kernel
theorem d_O_recall_109 : decode b_O_recall 109 = .ok (.getfield 30, 3) := by decide +kernel
theorem d_O_recall_112 : decode b_O_recall 112 = .ok (.iload 6, 2) := by decide +kernel
theorem d_O_recall_114 : decode b_O_recall 114 = .ok (.iconst 3, 1) := by decide +kernel
theorem d_O_recall_115 : decode b_O_recall 115 = .ok (.iastore, 1) := by decide +kernel
theorem d_O_recall_116 : decode b_O_recall 116 = .ok (.iinc 6 1, 3) := by decide +kernel
theorem d_O_recall_119 : decode b_O_recall 119 = .ok (.goto (-102), 3) := by decide +kernel
theorem d_O_recall_122 : decode b_O_recall 122 = .ok (.aload_n 0, 1) := by decide +kernel
theorem d_O_recall_123 : decode b_O_recall 123 = .ok (.getfield 183, 3) := by decide +kernel
theorem d_O_recall_126 : decode b_O_recall 126 = .ok (.ireturn, 1) := by decide +kernel
def w_O_recall : List Cond := .code y_O_recall b_O_recall 7 (some .int) :: ([.methodLink "PartShelvesModel" 102 ⟨"PartShelvesModel", "isKind", "(I)Z"⟩, .static ⟨"PartShelvesModel", "isKind", "(I)Z"⟩, .initialized "PartShelvesModel", .code ⟨"PartShelvesModel", "isKind", "(I)Z"⟩ prog_9_method_4_code 1 (some .boolean), .fieldLink "PartShelvesModel" 183 "PartShelvesModel" "tellCount" "I", .fieldLink "PartShelvesModel" 81 "PartShelvesModel" "parts" "I", .fieldLink "PartShelvesModel" 21 "PartShelvesModel" "kinds" "[I", .fieldLink "PartShelvesModel" 27 "PartShelvesModel" "serials" "[J", .fieldLink "PartShelvesModel" 30 "PartShelvesModel" "states" "[I", .fieldLink "PartShelvesModel" 57 "PartShelvesModel" "tells" "[I", .fieldLink "PartShelvesModel" 33 "PartShelvesModel" "whose" "[I"] ++ u_ws R_O F_O 36)
set_option maxRecDepth 20000 in
theorem g_O_recall_isKind : GoodIn w_O_recall (wsS R_O 102 y_O_isKind w_O_isKind) := goodIn_p _ [4] rfl (by decide +kernel)
set_option maxHeartbeats 4000000 in
set_option maxRecDepth 100000 in
theorem c_O_recall (l : Launch) (D : va_G) (kC : Nat → ClassId) (ad : Nat → Nat) (td : Nat) (rn : Nat) (pn : Nat) (an : Nat) (jn : Nat) (tn : Nat) (bm : Int32) (fw : Int64) (gp : Nat) (ga : Nat) (bp : Int32) (fc : Int64) (fj : Nat) (rA : Nat → Nat) (rC : Nat → Nat) (ft : Nat → Int32) (kd : Nat → Nat) (aG : Nat → Nat) (sR : Nat → Nat) (sT : Nat → Nat) (wh : Nat → Nat) (dY : Nat → Nat) (pd : Nat → Nat) (cN : Nat → Nat) (mN : Nat → Nat) (sv : Nat → Int32) (nd : Nat → Nat) (wr : Nat → Nat) (tl : Nat → Nat) (lt : Nat → Int32) (lT : Nat → Nat) (lD : Nat → Nat) (gv : Nat → Int32) (gn : Nat → Int64) (od : Nat → Nat) (br : Nat → Nat) (x : Int32) (v : Int64) (u : Int64) (sz : Nat) (hpn : pn ≤ 8) (hkd : ∀ j, kd j < 6) (hsT : ∀ j, sT j ≤ 3) : Met l y_O_recall w_O_recall ({ frames := 1, cells := 0, slots := 0, locals := 20 } : Room) (gPre cls D (tyL kC) [.ref (ad 0), .int x, .long v, .long u] (fl [(wO kC ad td rn pn an jn tn bm fw gp ga bp fc fj rA rC ft kd aG sR sT wh dY pd cN mN sv nd wr tl lt lT lD gv gn od br)]) sz) (gQi cls D (tyL kC) (fl [(wO kC ad td rn pn an jn tn bm fw gp ga bp fc fj rA rC ft kd aG sR sT wh dY pd cN mN sv nd wr tl lt lT lD gv gn od br)]) sz (if inR x 6 then nI (rcT kd sR sT (nOf x) v u pn) else -1) (fl [(wO kC ad td rn pn an jn (if inR x 6 then rcT kd sR sT (nOf x) v u pn else tn) bm fw gp ga bp fc fj rA rC ft kd aG sR (if inR x 6 then rcS kd sR sT (nOf x) v u pn else sT) wh dY pd cN mN sv nd wr (if inR x 6 then rcL kd sR sT wh tl (nOf x) v u pn else tl) lt lT lD gv gn od br)])) 0 0 (va_A (fl [(wO kC ad td rn pn an jn tn bm fw gp ga bp fc fj rA rC ft kd aG sR sT wh dY pd cN mN sv nd wr tl lt lT lD gv gn od br)]) sz) := by
  refine Met.ofW (cc := b_O_recall) (maxL := 7) (ret := (some .int)) (by decide) rfl ?_
  intro p e s m args below meth c s₁ B hml hv
  obtain ⟨rfl, hsz, hP, hK, hD0⟩ := hv
  have hx := B.exec
  have hb := B.bytes
  have hr := B.returns
  have hts := atoms_spec (ws := w_O_recall) B.pre
  have hown : s.vm.findClass R_O = some m.cls := findClass_of_methodNamed B.named
  have hlocks := B.notSynchronized
  subst hsz
  obtain ⟨A, hAe⟩ : ∃ A : Nat → Prop, A = va_A (fl [(wO kC ad td rn pn an jn tn bm fw gp ga bp fc fj rA rC ft kd aG sR sT wh dY pd cN mN sv nd wr tl lt lT lD gv gn od br)]) s.heap.size := ⟨_, rfl⟩
  have hD : va_D A (fl [(wO kC ad td rn pn an jn tn bm fw gp ga bp fc fj rA rC ft kd aG sR sT wh dY pd cN mN sv nd wr tl lt lT lD gv gn od br)]) := by rw [hAe]; exact hD0.self
  have hA : ∀ q : Nat, s.heap.size ≤ q → A q := fun q h => by rw [hAe]; exact Or.inr h
  have hS : va_S A s.heap s.heap [] := va_S.rf
  have hl := lv_entry ([.ref (ad 0), .int x, .long v, .long u]) (n := 7) (Nat.le_of_ble_eq_true rfl)
  rw [lg_entry_eq]
  generalize (lg_sl ([.ref (ad 0), .int x, .long v, .long u]) ++ List.replicate (7 - (lg_sl ([.ref (ad 0), .int x, .long v, .long u])).length) Slot.unset).toArray = ls at hl ⊢
  have hl : lv_has ls 7 [(0, .ref (ad 0)), (1, .int x), (2, .long v), (4, .long u)] := hl
  refine lv_iload_n hx hb d_O_recall_0 rfl (lv_at hl 1 rfl) ?_
  refine r_calli (W.runS (As := [.int x]) (rest := []) ⟨hx, hb, hml, hown, hts⟩ (c_O_isKind l x) (cwS 1 hts g_O_recall_isKind rfl rfl rfl (by decide +kernel) ⟨Nat.le_of_ble_eq_true rfl, Nat.le_of_ble_eq_true rfl⟩) p0_preS rfl rfl hl.1 rfl (lv_room (Nat.le_of_ble_eq_true rfl)) d_O_recall_1 ⟨Nat.le_of_ble_eq_true rfl, Nat.le_of_ble_eq_true rfl⟩) ?_
  refine lv_if_ne (tgt := 9) hx hb d_O_recall_4 (by decide) (fun h0 => ?_) (fun h0 => ?_)
  · have hC := bI_n0.mp h0
    obtain ⟨j, hj, rfl⟩ := inR_n (by decide) hC
    refine lv_aload_n hx hb d_O_recall_9 rfl (lv_at hl 0 rfl) ?_
    refine lv_iconst (v := nI 0) hx hb d_O_recall_10 (by decide) ?_
    refine fv_put (ci := 7) (v := .int (nI 0)) (ty := (.int)) (C := R_O) (T := F_O) (N := 36) hx hb hts (by decide +kernel) t_O t_O_ok n_O hown hK hP hD hS 0 0 rfl rfl rfl 20 (by decide) (hts (.fieldLink R_O 183 "PartShelvesModel" "tellCount" "I") (by decide +kernel)) (fun _ h9 => h9) rfl (by decide +kernel) (rfl) (rfl) (Nat.le_of_ble_eq_true rfl) d_O_recall_11 (fun H locs hP hD hS => ?_)
    have hP : va_P D cls (fl [(wO kC ad td rn pn an jn 0 bm fw gp ga bp fc fj rA rC ft kd aG sR sT wh dY pd cN mN sv nd wr tl lt lT lD gv gn od br)]) H := hP
    have hD : va_D A (fl [(wO kC ad td rn pn an jn 0 bm fw gp ga bp fc fj rA rC ft kd aG sR sT wh dY pd cN mN sv nd wr tl lt lT lD gv gn od br)]) := hD
    refine lv_iconst (v := nI 0) hx hb d_O_recall_14 (by decide) ?_
    refine lv_istore (lv' := [(6, .int (nI 0)), (0, .ref (ad 0)), (1, .int (nI j)), (2, .long v), (4, .long u)]) hx hb d_O_recall_15 hl (by decide) rfl (fun ls hl => ?_)
    have L17 : ∀ (n17 : Nat) (i : Nat), pn - i < n17 → i ≤ pn → ∀ (H : Heap) (locs : List Loc), va_P D cls (fl [(wO kC ad td rn pn an jn (rcT kd sR sT j v u i) bm fw gp ga bp fc fj rA rC ft kd aG sR (rcS kd sR sT j v u i) wh dY pd cN mN sv nd wr (rcL kd sR sT wh tl j v u i) lt lT lD gv gn od br)]) H → va_D A (fl [(wO kC ad td rn pn an jn (rcT kd sR sT j v u i) bm fw gp ga bp fc fj rA rC ft kd aG sR (rcS kd sR sT j v u i) wh dY pd cN mN sv nd wr (rcL kd sR sT wh tl j v u i) lt lT lD gv gn od br)]) → va_S A s.heap H locs → ∀ (ls : Array Slot), lv_has ls 7 [(0, .ref (ad 0)), (1, .int (nI j)), (2, .long v), (4, .long u), (6, .int (nI i))] → W p l e (headSpec w_O_recall ({ frames := 1, cells := 0, slots := 0, locals := 20 } : Room)).room s m ([.ref (ad 0), .int (nI j), .long v, .long u] : List Value).toArray below meth c H locs 0 0 (MQ below (gQi cls D (tyL kC) (fl [(wO kC ad td rn pn an jn tn bm fw gp ga bp fc fj rA rC ft kd aG sR sT wh dY pd cN mN sv nd wr tl lt lT lD gv gn od br)]) s.heap.size (if inR (nI j) 6 then nI (rcT kd sR sT (nOf (nI j)) v u pn) else -1) (fl [(wO kC ad td rn pn an jn (if inR (nI j) 6 then rcT kd sR sT (nOf (nI j)) v u pn else tn) bm fw gp ga bp fc fj rA rC ft kd aG sR (if inR (nI j) 6 then rcS kd sR sT (nOf (nI j)) v u pn else sT) wh dY pd cN mN sv nd wr (if inR (nI j) 6 then rcL kd sR sT wh tl (nOf (nI j)) v u pn else tl) lt lT lD gv gn od br)])) ([.ref (ad 0), .int (nI j), .long v, .long u] : List Value).toArray s 0 0 (va_A (fl [(wO kC ad td rn pn an jn tn bm fw gp ga bp fc fj rA rC ft kd aG sR sT wh dY pd cN mN sv nd wr tl lt lT lD gv gn od br)]) s.heap.size)) (F0 m 17 ls []) := by
      intro n17
      induction n17 with
      | zero =>
        intro i hm
        exact absurd hm (Nat.not_lt_zero _)
      | succ n17 ih17 =>
        intro i hm hip H locs hP hD hS ls hl
        refine lv_iload hx hb d_O_recall_17 (lv_at hl 4 rfl) ?_
        refine lv_aload_n hx hb d_O_recall_19 rfl (lv_at hl 0 rfl) ?_
        refine fv_get (ci := 7) (v := .int (nI pn)) (C := R_O) (T := F_O) (N := 36) hx hb hts (by decide +kernel) hown hK hP 0 0 rfl rfl rfl 5 (by decide) (hts (.fieldLink R_O 81 "PartShelvesModel" "parts" "I") (by decide +kernel)) (fun _ h9 => h9) rfl d_O_recall_20 ?_
        refine nv_icmp_ge (tgt := 122) hx hb d_O_recall_23 (by decide) (by omega) (by omega) (fun hi => ?_) (fun hi => ?_)
        · obtain rfl : pn = i := by omega
          refine lv_aload_n hx hb d_O_recall_122 rfl (lv_at hl 0 rfl) ?_
          refine fv_get (ci := 7) (v := .int (nI (rcT kd sR sT j v u pn))) (C := R_O) (T := F_O) (N := 36) hx hb hts (by decide +kernel) hown hK hP 0 0 rfl rfl rfl 20 (by decide) (hts (.fieldLink R_O 183 "PartShelvesModel" "tellCount" "I") (by decide +kernel)) (fun _ h9 => h9) rfl d_O_recall_123 ?_
          have ew1 : (rcT kd sR sT j v u pn) = (if inR (nI j) 6 then rcT kd sR sT (nOf (nI j)) v u pn else tn) := by rw [if_pos hC, nOf_nI (by omega)]
          have hP : va_P D cls (fl [(wO kC ad td rn pn an jn (if inR (nI j) 6 then rcT kd sR sT (nOf (nI j)) v u pn else tn) bm fw gp ga bp fc fj rA rC ft kd aG sR (rcS kd sR sT j v u pn) wh dY pd cN mN sv nd wr (rcL kd sR sT wh tl j v u pn) lt lT lD gv gn od br)]) H := by rw [← ew1]; exact hP
          have hD : va_D A (fl [(wO kC ad td rn pn an jn (if inR (nI j) 6 then rcT kd sR sT (nOf (nI j)) v u pn else tn) bm fw gp ga bp fc fj rA rC ft kd aG sR (rcS kd sR sT j v u pn) wh dY pd cN mN sv nd wr (rcL kd sR sT wh tl j v u pn) lt lT lD gv gn od br)]) := by rw [← ew1]; exact hD
          have ew2 : (rcL kd sR sT wh tl j v u pn) = (if inR (nI j) 6 then rcL kd sR sT wh tl (nOf (nI j)) v u pn else tl) := by rw [if_pos hC, nOf_nI (by omega)]
          have hP : va_P D cls (fl [(wO kC ad td rn pn an jn (if inR (nI j) 6 then rcT kd sR sT (nOf (nI j)) v u pn else tn) bm fw gp ga bp fc fj rA rC ft kd aG sR (rcS kd sR sT j v u pn) wh dY pd cN mN sv nd wr (if inR (nI j) 6 then rcL kd sR sT wh tl (nOf (nI j)) v u pn else tl) lt lT lD gv gn od br)]) H := by rw [← ew2]; exact hP
          have hD : va_D A (fl [(wO kC ad td rn pn an jn (if inR (nI j) 6 then rcT kd sR sT (nOf (nI j)) v u pn else tn) bm fw gp ga bp fc fj rA rC ft kd aG sR (rcS kd sR sT j v u pn) wh dY pd cN mN sv nd wr (if inR (nI j) 6 then rcL kd sR sT wh tl (nOf (nI j)) v u pn else tl) lt lT lD gv gn od br)]) := by rw [← ew2]; exact hD
          have ew3 : (rcS kd sR sT j v u pn) = (if inR (nI j) 6 then rcS kd sR sT (nOf (nI j)) v u pn else sT) := by rw [if_pos hC, nOf_nI (by omega)]
          have hP : va_P D cls (fl [(wO kC ad td rn pn an jn (if inR (nI j) 6 then rcT kd sR sT (nOf (nI j)) v u pn else tn) bm fw gp ga bp fc fj rA rC ft kd aG sR (if inR (nI j) 6 then rcS kd sR sT (nOf (nI j)) v u pn else sT) wh dY pd cN mN sv nd wr (if inR (nI j) 6 then rcL kd sR sT wh tl (nOf (nI j)) v u pn else tl) lt lT lD gv gn od br)]) H := by rw [← ew3]; exact hP
          have hD : va_D A (fl [(wO kC ad td rn pn an jn (if inR (nI j) 6 then rcT kd sR sT (nOf (nI j)) v u pn else tn) bm fw gp ga bp fc fj rA rC ft kd aG sR (if inR (nI j) 6 then rcS kd sR sT (nOf (nI j)) v u pn else sT) wh dY pd cN mN sv nd wr (if inR (nI j) 6 then rcL kd sR sT wh tl (nOf (nI j)) v u pn else tl) lt lT lD gv gn od br)]) := by rw [← ew3]; exact hD
          exact W.iret (v := nI (rcT kd sR sT j v u pn)) hx hb hr (fun t ht hW => by subst hAe; exact ⟨⟨(nI (rcT kd sR sT j v u pn)), (), rfl, by rw [if_pos hC, nOf_nI (by omega)], by rw [ht]; exact hP, va_K.moved hW.alike hK, hD⟩, hS.F ht⟩) (by subst hAe; exact hS.2.2) d_O_recall_126
        · have hrt := rcT_le kd sR sT j v u i
          refine lv_aload_n hx hb d_O_recall_26 rfl (lv_at hl 0 rfl) ?_
          refine fv_get (ci := 7) (v := .ref (ad 4)) (C := R_O) (T := F_O) (N := 36) hx hb hts (by decide +kernel) hown hK hP 0 0 rfl rfl rfl 6 (by decide) (hts (.fieldLink R_O 21 "PartShelvesModel" "kinds" "[I") (by decide +kernel)) (fun _ h9 => h9) rfl d_O_recall_27 ?_
          refine lv_iload hx hb d_O_recall_30 (lv_at hl 4 rfl) ?_
          refine fa_ialdN hx hb hK hP 0 4 0 rfl rfl rfl (by omega) (by decide) d_O_recall_32 ?_
          refine lv_iload_n hx hb d_O_recall_33 rfl (lv_at hl 1 rfl) ?_
          refine nv_icmp_ne (tgt := 116) hx hb d_O_recall_34 (by decide) (by have := hkd i; omega) (by omega) (fun h1 => ?_) (fun h1 => ?_)
          · refine lv_iinc (v := nI (i + 1)) (lv' := [(6, .int (nI (i + 1))), (0, .ref (ad 0)), (1, .int (nI j)), (2, .long v), (4, .long u)]) hx hb d_O_recall_116 hl (k := 4) rfl (nI_1 i) (by decide) rfl (fun ls hl => ?_)
            refine lv_goto (tgt := 17) hx hb d_O_recall_119 (by decide) ?_
            have hm : ¬ rcC kd sR j v u i := fun q => by first | exact absurd h3 (Int64.not_lt.mpr q.2.2) | exact absurd h2 (Int64.not_lt.mpr q.2.1) | exact h1 q.1
            have ew4 : (rcL kd sR sT wh tl j v u i) = (rcL kd sR sT wh tl j v u (i + 1)) := (if_neg (fun q => hm q.1)).symm
            have hP : va_P D cls (fl [(wO kC ad td rn pn an jn (rcT kd sR sT j v u i) bm fw gp ga bp fc fj rA rC ft kd aG sR (rcS kd sR sT j v u i) wh dY pd cN mN sv nd wr (rcL kd sR sT wh tl j v u (i + 1)) lt lT lD gv gn od br)]) H := by rw [← ew4]; exact hP
            have hD : va_D A (fl [(wO kC ad td rn pn an jn (rcT kd sR sT j v u i) bm fw gp ga bp fc fj rA rC ft kd aG sR (rcS kd sR sT j v u i) wh dY pd cN mN sv nd wr (rcL kd sR sT wh tl j v u (i + 1)) lt lT lD gv gn od br)]) := by rw [← ew4]; exact hD
            have ew5 : (rcT kd sR sT j v u i) = (rcT kd sR sT j v u (i + 1)) := (if_neg (fun q => hm q.1)).symm
            have hP : va_P D cls (fl [(wO kC ad td rn pn an jn (rcT kd sR sT j v u (i + 1)) bm fw gp ga bp fc fj rA rC ft kd aG sR (rcS kd sR sT j v u i) wh dY pd cN mN sv nd wr (rcL kd sR sT wh tl j v u (i + 1)) lt lT lD gv gn od br)]) H := by rw [← ew5]; exact hP
            have hD : va_D A (fl [(wO kC ad td rn pn an jn (rcT kd sR sT j v u (i + 1)) bm fw gp ga bp fc fj rA rC ft kd aG sR (rcS kd sR sT j v u i) wh dY pd cN mN sv nd wr (rcL kd sR sT wh tl j v u (i + 1)) lt lT lD gv gn od br)]) := by rw [← ew5]; exact hD
            have ew6 : (rcS kd sR sT j v u i) = (rcS kd sR sT j v u (i + 1)) := (if_neg (fun q => hm q.1)).symm
            have hP : va_P D cls (fl [(wO kC ad td rn pn an jn (rcT kd sR sT j v u (i + 1)) bm fw gp ga bp fc fj rA rC ft kd aG sR (rcS kd sR sT j v u (i + 1)) wh dY pd cN mN sv nd wr (rcL kd sR sT wh tl j v u (i + 1)) lt lT lD gv gn od br)]) H := by rw [← ew6]; exact hP
            have hD : va_D A (fl [(wO kC ad td rn pn an jn (rcT kd sR sT j v u (i + 1)) bm fw gp ga bp fc fj rA rC ft kd aG sR (rcS kd sR sT j v u (i + 1)) wh dY pd cN mN sv nd wr (rcL kd sR sT wh tl j v u (i + 1)) lt lT lD gv gn od br)]) := by rw [← ew6]; exact hD
            exact ih17 (i + 1) (by omega) (hi) _ _ hP hD hS ls (lv_sub hl [1, 2, 3, 4, 0] rfl)
          · refine lv_aload_n hx hb d_O_recall_37 rfl (lv_at hl 0 rfl) ?_
            refine fv_get (ci := 7) (v := .ref (ad 6)) (C := R_O) (T := F_O) (N := 36) hx hb hts (by decide +kernel) hown hK hP 0 0 rfl rfl rfl 8 (by decide) (hts (.fieldLink R_O 27 "PartShelvesModel" "serials" "[J") (by decide +kernel)) (fun _ h9 => h9) rfl d_O_recall_38 ?_
            refine lv_iload hx hb d_O_recall_41 (lv_at hl 4 rfl) ?_
            refine fa_laldN hx hb hK hP 0 6 1 rfl rfl rfl (by omega) (by decide) d_O_recall_43 ?_
            refine lv_lload_n hx hb d_O_recall_44 rfl (lv_at hl 2 rfl) ?_
            refine lc_lt (tgt := 116) hx hb d_O_recall_45 d_O_recall_46 (by decide) (fun h2 => ?_) (fun h2 => ?_)
            · refine lv_iinc (v := nI (i + 1)) (lv' := [(6, .int (nI (i + 1))), (0, .ref (ad 0)), (1, .int (nI j)), (2, .long v), (4, .long u)]) hx hb d_O_recall_116 hl (k := 4) rfl (nI_1 i) (by decide) rfl (fun ls hl => ?_)
              refine lv_goto (tgt := 17) hx hb d_O_recall_119 (by decide) ?_
              have hm : ¬ rcC kd sR j v u i := fun q => by first | exact absurd h3 (Int64.not_lt.mpr q.2.2) | exact absurd h2 (Int64.not_lt.mpr q.2.1) | exact h1 q.1
              have ew7 : (rcL kd sR sT wh tl j v u i) = (rcL kd sR sT wh tl j v u (i + 1)) := (if_neg (fun q => hm q.1)).symm
              have hP : va_P D cls (fl [(wO kC ad td rn pn an jn (rcT kd sR sT j v u i) bm fw gp ga bp fc fj rA rC ft kd aG sR (rcS kd sR sT j v u i) wh dY pd cN mN sv nd wr (rcL kd sR sT wh tl j v u (i + 1)) lt lT lD gv gn od br)]) H := by rw [← ew7]; exact hP
              have hD : va_D A (fl [(wO kC ad td rn pn an jn (rcT kd sR sT j v u i) bm fw gp ga bp fc fj rA rC ft kd aG sR (rcS kd sR sT j v u i) wh dY pd cN mN sv nd wr (rcL kd sR sT wh tl j v u (i + 1)) lt lT lD gv gn od br)]) := by rw [← ew7]; exact hD
              have ew8 : (rcT kd sR sT j v u i) = (rcT kd sR sT j v u (i + 1)) := (if_neg (fun q => hm q.1)).symm
              have hP : va_P D cls (fl [(wO kC ad td rn pn an jn (rcT kd sR sT j v u (i + 1)) bm fw gp ga bp fc fj rA rC ft kd aG sR (rcS kd sR sT j v u i) wh dY pd cN mN sv nd wr (rcL kd sR sT wh tl j v u (i + 1)) lt lT lD gv gn od br)]) H := by rw [← ew8]; exact hP
              have hD : va_D A (fl [(wO kC ad td rn pn an jn (rcT kd sR sT j v u (i + 1)) bm fw gp ga bp fc fj rA rC ft kd aG sR (rcS kd sR sT j v u i) wh dY pd cN mN sv nd wr (rcL kd sR sT wh tl j v u (i + 1)) lt lT lD gv gn od br)]) := by rw [← ew8]; exact hD
              have ew9 : (rcS kd sR sT j v u i) = (rcS kd sR sT j v u (i + 1)) := (if_neg (fun q => hm q.1)).symm
              have hP : va_P D cls (fl [(wO kC ad td rn pn an jn (rcT kd sR sT j v u (i + 1)) bm fw gp ga bp fc fj rA rC ft kd aG sR (rcS kd sR sT j v u (i + 1)) wh dY pd cN mN sv nd wr (rcL kd sR sT wh tl j v u (i + 1)) lt lT lD gv gn od br)]) H := by rw [← ew9]; exact hP
              have hD : va_D A (fl [(wO kC ad td rn pn an jn (rcT kd sR sT j v u (i + 1)) bm fw gp ga bp fc fj rA rC ft kd aG sR (rcS kd sR sT j v u (i + 1)) wh dY pd cN mN sv nd wr (rcL kd sR sT wh tl j v u (i + 1)) lt lT lD gv gn od br)]) := by rw [← ew9]; exact hD
              exact ih17 (i + 1) (by omega) (hi) _ _ hP hD hS ls (lv_sub hl [1, 2, 3, 4, 0] rfl)
            · refine lv_aload_n hx hb d_O_recall_49 rfl (lv_at hl 0 rfl) ?_
              refine fv_get (ci := 7) (v := .ref (ad 6)) (C := R_O) (T := F_O) (N := 36) hx hb hts (by decide +kernel) hown hK hP 0 0 rfl rfl rfl 8 (by decide) (hts (.fieldLink R_O 27 "PartShelvesModel" "serials" "[J") (by decide +kernel)) (fun _ h9 => h9) rfl d_O_recall_50 ?_
              refine lv_iload hx hb d_O_recall_53 (lv_at hl 4 rfl) ?_
              refine fa_laldN hx hb hK hP 0 6 1 rfl rfl rfl (by omega) (by decide) d_O_recall_55 ?_
              refine lv_lload hx hb d_O_recall_56 (lv_at hl 3 rfl) ?_
              refine lc_gt (tgt := 116) hx hb d_O_recall_58 d_O_recall_59 (by decide) (fun h3 => ?_) (fun h3 => ?_)
              · refine lv_iinc (v := nI (i + 1)) (lv' := [(6, .int (nI (i + 1))), (0, .ref (ad 0)), (1, .int (nI j)), (2, .long v), (4, .long u)]) hx hb d_O_recall_116 hl (k := 4) rfl (nI_1 i) (by decide) rfl (fun ls hl => ?_)
                refine lv_goto (tgt := 17) hx hb d_O_recall_119 (by decide) ?_
                have hm : ¬ rcC kd sR j v u i := fun q => by first | exact absurd h3 (Int64.not_lt.mpr q.2.2) | exact absurd h2 (Int64.not_lt.mpr q.2.1) | exact h1 q.1
                have ew10 : (rcL kd sR sT wh tl j v u i) = (rcL kd sR sT wh tl j v u (i + 1)) := (if_neg (fun q => hm q.1)).symm
                have hP : va_P D cls (fl [(wO kC ad td rn pn an jn (rcT kd sR sT j v u i) bm fw gp ga bp fc fj rA rC ft kd aG sR (rcS kd sR sT j v u i) wh dY pd cN mN sv nd wr (rcL kd sR sT wh tl j v u (i + 1)) lt lT lD gv gn od br)]) H := by rw [← ew10]; exact hP
                have hD : va_D A (fl [(wO kC ad td rn pn an jn (rcT kd sR sT j v u i) bm fw gp ga bp fc fj rA rC ft kd aG sR (rcS kd sR sT j v u i) wh dY pd cN mN sv nd wr (rcL kd sR sT wh tl j v u (i + 1)) lt lT lD gv gn od br)]) := by rw [← ew10]; exact hD
                have ew11 : (rcT kd sR sT j v u i) = (rcT kd sR sT j v u (i + 1)) := (if_neg (fun q => hm q.1)).symm
                have hP : va_P D cls (fl [(wO kC ad td rn pn an jn (rcT kd sR sT j v u (i + 1)) bm fw gp ga bp fc fj rA rC ft kd aG sR (rcS kd sR sT j v u i) wh dY pd cN mN sv nd wr (rcL kd sR sT wh tl j v u (i + 1)) lt lT lD gv gn od br)]) H := by rw [← ew11]; exact hP
                have hD : va_D A (fl [(wO kC ad td rn pn an jn (rcT kd sR sT j v u (i + 1)) bm fw gp ga bp fc fj rA rC ft kd aG sR (rcS kd sR sT j v u i) wh dY pd cN mN sv nd wr (rcL kd sR sT wh tl j v u (i + 1)) lt lT lD gv gn od br)]) := by rw [← ew11]; exact hD
                have ew12 : (rcS kd sR sT j v u i) = (rcS kd sR sT j v u (i + 1)) := (if_neg (fun q => hm q.1)).symm
                have hP : va_P D cls (fl [(wO kC ad td rn pn an jn (rcT kd sR sT j v u (i + 1)) bm fw gp ga bp fc fj rA rC ft kd aG sR (rcS kd sR sT j v u (i + 1)) wh dY pd cN mN sv nd wr (rcL kd sR sT wh tl j v u (i + 1)) lt lT lD gv gn od br)]) H := by rw [← ew12]; exact hP
                have hD : va_D A (fl [(wO kC ad td rn pn an jn (rcT kd sR sT j v u (i + 1)) bm fw gp ga bp fc fj rA rC ft kd aG sR (rcS kd sR sT j v u (i + 1)) wh dY pd cN mN sv nd wr (rcL kd sR sT wh tl j v u (i + 1)) lt lT lD gv gn od br)]) := by rw [← ew12]; exact hD
                exact ih17 (i + 1) (by omega) (hi) _ _ hP hD hS ls (lv_sub hl [1, 2, 3, 4, 0] rfl)
              · refine lv_aload_n hx hb d_O_recall_62 rfl (lv_at hl 0 rfl) ?_
                refine fv_get (ci := 7) (v := .ref (ad 7)) (C := R_O) (T := F_O) (N := 36) hx hb hts (by decide +kernel) hown hK hP 0 0 rfl rfl rfl 9 (by decide) (hts (.fieldLink R_O 30 "PartShelvesModel" "states" "[I") (by decide +kernel)) (fun _ h9 => h9) rfl d_O_recall_63 ?_
                refine lv_iload hx hb d_O_recall_66 (lv_at hl 4 rfl) ?_
                refine fa_ialdN hx hb hK hP 0 7 0 rfl rfl rfl (by omega) (by decide) d_O_recall_68 ?_
                refine nv_topi (y := nI (sT i)) (congrArg nI (rcS_ge kd sR sT j v u i (Nat.le_refl i))) ?_
                refine lv_iconst (v := nI 2) hx hb d_O_recall_69 (by decide) ?_
                refine nv_icmp_ne (tgt := 108) hx hb d_O_recall_70 (by decide) (by have := hsT i; omega) (by omega) (fun h4 => ?_) (fun h4 => ?_)
                · refine lv_aload_n hx hb d_O_recall_108 rfl (lv_at hl 0 rfl) ?_
                  refine fv_get (ci := 7) (v := .ref (ad 7)) (C := R_O) (T := F_O) (N := 36) hx hb hts (by decide +kernel) hown hK hP 0 0 rfl rfl rfl 9 (by decide) (hts (.fieldLink R_O 30 "PartShelvesModel" "states" "[I") (by decide +kernel)) (fun _ h9 => h9) rfl d_O_recall_109 ?_
                  refine lv_iload hx hb d_O_recall_112 (lv_at hl 4 rfl) ?_
                  refine lv_iconst (v := nI 3) hx hb d_O_recall_114 (by decide) ?_
                  refine fa_iastN hx hb hK hP hD hS 0 7 0 rfl rfl rfl (by omega) (by decide) d_O_recall_115 (fun H locs hP hD hS => ?_)
                  have hP : va_P D cls (fl [(wO kC ad td rn pn an jn (rcT kd sR sT j v u i) bm fw gp ga bp fc fj rA rC ft kd aG sR (updN (rcS kd sR sT j v u i) i 3) wh dY pd cN mN sv nd wr (rcL kd sR sT wh tl j v u i) lt lT lD gv gn od br)]) H := hP
                  have hD : va_D A (fl [(wO kC ad td rn pn an jn (rcT kd sR sT j v u i) bm fw gp ga bp fc fj rA rC ft kd aG sR (updN (rcS kd sR sT j v u i) i 3) wh dY pd cN mN sv nd wr (rcL kd sR sT wh tl j v u i) lt lT lD gv gn od br)]) := hD
                  refine lv_iinc (v := nI (i + 1)) (lv' := [(6, .int (nI (i + 1))), (0, .ref (ad 0)), (1, .int (nI j)), (2, .long v), (4, .long u)]) hx hb d_O_recall_116 hl (k := 4) rfl (nI_1 i) (by decide) rfl (fun ls hl => ?_)
                  refine lv_goto (tgt := 17) hx hb d_O_recall_119 (by decide) ?_
                  have hm : rcC kd sR j v u i := ⟨h1, Int64.not_lt.mp h2, Int64.not_lt.mp h3⟩
                  have ew13 : (rcL kd sR sT wh tl j v u i) = (rcL kd sR sT wh tl j v u (i + 1)) := (if_neg (fun q => h4 q.2)).symm
                  have hP : va_P D cls (fl [(wO kC ad td rn pn an jn (rcT kd sR sT j v u i) bm fw gp ga bp fc fj rA rC ft kd aG sR (updN (rcS kd sR sT j v u i) i 3) wh dY pd cN mN sv nd wr (rcL kd sR sT wh tl j v u (i + 1)) lt lT lD gv gn od br)]) H := by rw [← ew13]; exact hP
                  have hD : va_D A (fl [(wO kC ad td rn pn an jn (rcT kd sR sT j v u i) bm fw gp ga bp fc fj rA rC ft kd aG sR (updN (rcS kd sR sT j v u i) i 3) wh dY pd cN mN sv nd wr (rcL kd sR sT wh tl j v u (i + 1)) lt lT lD gv gn od br)]) := by rw [← ew13]; exact hD
                  have ew14 : (rcT kd sR sT j v u i) = (rcT kd sR sT j v u (i + 1)) := (if_neg (fun q => h4 q.2)).symm
                  have hP : va_P D cls (fl [(wO kC ad td rn pn an jn (rcT kd sR sT j v u (i + 1)) bm fw gp ga bp fc fj rA rC ft kd aG sR (updN (rcS kd sR sT j v u i) i 3) wh dY pd cN mN sv nd wr (rcL kd sR sT wh tl j v u (i + 1)) lt lT lD gv gn od br)]) H := by rw [← ew14]; exact hP
                  have hD : va_D A (fl [(wO kC ad td rn pn an jn (rcT kd sR sT j v u (i + 1)) bm fw gp ga bp fc fj rA rC ft kd aG sR (updN (rcS kd sR sT j v u i) i 3) wh dY pd cN mN sv nd wr (rcL kd sR sT wh tl j v u (i + 1)) lt lT lD gv gn od br)]) := by rw [← ew14]; exact hD
                  have ew15 : (updN (rcS kd sR sT j v u i) i 3) = (rcS kd sR sT j v u (i + 1)) := (if_pos ⟨hm, h4⟩).symm
                  have hP : va_P D cls (fl [(wO kC ad td rn pn an jn (rcT kd sR sT j v u (i + 1)) bm fw gp ga bp fc fj rA rC ft kd aG sR (rcS kd sR sT j v u (i + 1)) wh dY pd cN mN sv nd wr (rcL kd sR sT wh tl j v u (i + 1)) lt lT lD gv gn od br)]) H := by rw [← ew15]; exact hP
                  have hD : va_D A (fl [(wO kC ad td rn pn an jn (rcT kd sR sT j v u (i + 1)) bm fw gp ga bp fc fj rA rC ft kd aG sR (rcS kd sR sT j v u (i + 1)) wh dY pd cN mN sv nd wr (rcL kd sR sT wh tl j v u (i + 1)) lt lT lD gv gn od br)]) := by rw [← ew15]; exact hD
                  exact ih17 (i + 1) (by omega) (hi) _ _ hP hD hS ls (lv_sub hl [1, 2, 3, 4, 0] rfl)
                · refine lv_aload_n hx hb d_O_recall_73 rfl (lv_at hl 0 rfl) ?_
                  refine fv_get (ci := 7) (v := .ref (ad 16)) (C := R_O) (T := F_O) (N := 36) hx hb hts (by decide +kernel) hown hK hP 0 0 rfl rfl rfl 21 (by decide) (hts (.fieldLink R_O 57 "PartShelvesModel" "tells" "[I") (by decide +kernel)) (fun _ h9 => h9) rfl d_O_recall_74 ?_
                  refine lv_aload_n hx hb d_O_recall_77 rfl (lv_at hl 0 rfl) ?_
                  refine fv_get (ci := 7) (v := .int (nI (rcT kd sR sT j v u i))) (C := R_O) (T := F_O) (N := 36) hx hb hts (by decide +kernel) hown hK hP 0 0 rfl rfl rfl 20 (by decide) (hts (.fieldLink R_O 183 "PartShelvesModel" "tellCount" "I") (by decide +kernel)) (fun _ h9 => h9) rfl d_O_recall_78 ?_
                  refine lv_bipush (v := nI 10) hx hb d_O_recall_81 (by decide +kernel) ?_
                  refine lv_iload hx hb d_O_recall_83 (lv_at hl 4 rfl) ?_
                  refine nv_imul hx hb d_O_recall_85 ?_
                  refine lv_aload_n hx hb d_O_recall_86 rfl (lv_at hl 0 rfl) ?_
                  refine fv_get (ci := 7) (v := .ref (ad 8)) (C := R_O) (T := F_O) (N := 36) hx hb hts (by decide +kernel) hown hK hP 0 0 rfl rfl rfl 10 (by decide) (hts (.fieldLink R_O 33 "PartShelvesModel" "whose" "[I") (by decide +kernel)) (fun _ h9 => h9) rfl d_O_recall_87 ?_
                  refine lv_iload hx hb d_O_recall_90 (lv_at hl 4 rfl) ?_
                  refine fa_ialdN hx hb hK hP 0 8 0 rfl rfl rfl (by omega) (by decide) d_O_recall_92 ?_
                  refine nv_iadd hx hb d_O_recall_93 ?_
                  refine fa_iastN hx hb hK hP hD hS 0 16 0 rfl rfl rfl (by omega) (by decide) d_O_recall_94 (fun H locs hP hD hS => ?_)
                  have hP : va_P D cls (fl [(wO kC ad td rn pn an jn (rcT kd sR sT j v u i) bm fw gp ga bp fc fj rA rC ft kd aG sR (rcS kd sR sT j v u i) wh dY pd cN mN sv nd wr (updN (rcL kd sR sT wh tl j v u i) (rcT kd sR sT j v u i) (10 * i + wh i)) lt lT lD gv gn od br)]) H := hP
                  have hD : va_D A (fl [(wO kC ad td rn pn an jn (rcT kd sR sT j v u i) bm fw gp ga bp fc fj rA rC ft kd aG sR (rcS kd sR sT j v u i) wh dY pd cN mN sv nd wr (updN (rcL kd sR sT wh tl j v u i) (rcT kd sR sT j v u i) (10 * i + wh i)) lt lT lD gv gn od br)]) := hD
                  refine lv_aload_n hx hb d_O_recall_95 rfl (lv_at hl 0 rfl) ?_
                  refine lv_dup hx hb d_O_recall_96 rfl ?_
                  refine fv_get (ci := 7) (v := .int (nI (rcT kd sR sT j v u i))) (C := R_O) (T := F_O) (N := 36) hx hb hts (by decide +kernel) hown hK hP 0 0 rfl rfl rfl 20 (by decide) (hts (.fieldLink R_O 183 "PartShelvesModel" "tellCount" "I") (by decide +kernel)) (fun _ h9 => h9) rfl d_O_recall_97 ?_
                  refine lv_iconst (v := nI 1) hx hb d_O_recall_100 (by decide) ?_
                  refine nv_iadd hx hb d_O_recall_101 ?_
                  refine fv_put (ci := 7) (v := .int (nI ((rcT kd sR sT j v u i) + 1))) (ty := (.int)) (C := R_O) (T := F_O) (N := 36) hx hb hts (by decide +kernel) t_O t_O_ok n_O hown hK hP hD hS 0 0 rfl rfl rfl 20 (by decide) (hts (.fieldLink R_O 183 "PartShelvesModel" "tellCount" "I") (by decide +kernel)) (fun _ h9 => h9) rfl (by decide +kernel) (rfl) (rfl) (Nat.le_of_ble_eq_true rfl) d_O_recall_102 (fun H locs hP hD hS => ?_)
                  have hP : va_P D cls (fl [(wO kC ad td rn pn an jn ((rcT kd sR sT j v u i) + 1) bm fw gp ga bp fc fj rA rC ft kd aG sR (rcS kd sR sT j v u i) wh dY pd cN mN sv nd wr (updN (rcL kd sR sT wh tl j v u i) (rcT kd sR sT j v u i) (10 * i + wh i)) lt lT lD gv gn od br)]) H := hP
                  have hD : va_D A (fl [(wO kC ad td rn pn an jn ((rcT kd sR sT j v u i) + 1) bm fw gp ga bp fc fj rA rC ft kd aG sR (rcS kd sR sT j v u i) wh dY pd cN mN sv nd wr (updN (rcL kd sR sT wh tl j v u i) (rcT kd sR sT j v u i) (10 * i + wh i)) lt lT lD gv gn od br)]) := hD
                  refine lv_goto (tgt := 116) hx hb d_O_recall_105 (by decide) ?_
                  refine lv_iinc (v := nI (i + 1)) (lv' := [(6, .int (nI (i + 1))), (0, .ref (ad 0)), (1, .int (nI j)), (2, .long v), (4, .long u)]) hx hb d_O_recall_116 hl (k := 4) rfl (nI_1 i) (by decide) rfl (fun ls hl => ?_)
                  refine lv_goto (tgt := 17) hx hb d_O_recall_119 (by decide) ?_
                  have hm : rcC kd sR j v u i := ⟨h1, Int64.not_lt.mp h2, Int64.not_lt.mp h3⟩
                  have ew16 : (updN (rcL kd sR sT wh tl j v u i) (rcT kd sR sT j v u i) (10 * i + wh i)) = (rcL kd sR sT wh tl j v u (i + 1)) := (if_pos ⟨hm, h4⟩).symm
                  have hP : va_P D cls (fl [(wO kC ad td rn pn an jn ((rcT kd sR sT j v u i) + 1) bm fw gp ga bp fc fj rA rC ft kd aG sR (rcS kd sR sT j v u i) wh dY pd cN mN sv nd wr (rcL kd sR sT wh tl j v u (i + 1)) lt lT lD gv gn od br)]) H := by rw [← ew16]; exact hP
                  have hD : va_D A (fl [(wO kC ad td rn pn an jn ((rcT kd sR sT j v u i) + 1) bm fw gp ga bp fc fj rA rC ft kd aG sR (rcS kd sR sT j v u i) wh dY pd cN mN sv nd wr (rcL kd sR sT wh tl j v u (i + 1)) lt lT lD gv gn od br)]) := by rw [← ew16]; exact hD
                  have ew17 : ((rcT kd sR sT j v u i) + 1) = (rcT kd sR sT j v u (i + 1)) := (if_pos ⟨hm, h4⟩).symm
                  have hP : va_P D cls (fl [(wO kC ad td rn pn an jn (rcT kd sR sT j v u (i + 1)) bm fw gp ga bp fc fj rA rC ft kd aG sR (rcS kd sR sT j v u i) wh dY pd cN mN sv nd wr (rcL kd sR sT wh tl j v u (i + 1)) lt lT lD gv gn od br)]) H := by rw [← ew17]; exact hP
                  have hD : va_D A (fl [(wO kC ad td rn pn an jn (rcT kd sR sT j v u (i + 1)) bm fw gp ga bp fc fj rA rC ft kd aG sR (rcS kd sR sT j v u i) wh dY pd cN mN sv nd wr (rcL kd sR sT wh tl j v u (i + 1)) lt lT lD gv gn od br)]) := by rw [← ew17]; exact hD
                  have ew18 : (rcS kd sR sT j v u i) = (rcS kd sR sT j v u (i + 1)) := (if_neg (fun q => q.2 h4)).symm
                  have hP : va_P D cls (fl [(wO kC ad td rn pn an jn (rcT kd sR sT j v u (i + 1)) bm fw gp ga bp fc fj rA rC ft kd aG sR (rcS kd sR sT j v u (i + 1)) wh dY pd cN mN sv nd wr (rcL kd sR sT wh tl j v u (i + 1)) lt lT lD gv gn od br)]) H := by rw [← ew18]; exact hP
                  have hD : va_D A (fl [(wO kC ad td rn pn an jn (rcT kd sR sT j v u (i + 1)) bm fw gp ga bp fc fj rA rC ft kd aG sR (rcS kd sR sT j v u (i + 1)) wh dY pd cN mN sv nd wr (rcL kd sR sT wh tl j v u (i + 1)) lt lT lD gv gn od br)]) := by rw [← ew18]; exact hD
                  exact ih17 (i + 1) (by omega) (hi) _ _ hP hD hS ls (lv_sub hl [1, 2, 3, 4, 0] rfl)
    exact L17 _ 0 (Nat.lt_succ_self _) (Nat.zero_le _) _ _ hP hD hS ls (lv_sub hl [1, 2, 3, 4, 0] rfl)
  · have hC := bI_0.mp h0
    refine lv_iconst (v := (-1)) hx hb d_O_recall_7 (by decide) ?_
    have ew19 : tn = (if inR x 6 then rcT kd sR sT (nOf x) v u pn else tn) := (if_neg hC).symm
    have hP : va_P D cls (fl [(wO kC ad td rn pn an jn (if inR x 6 then rcT kd sR sT (nOf x) v u pn else tn) bm fw gp ga bp fc fj rA rC ft kd aG sR sT wh dY pd cN mN sv nd wr tl lt lT lD gv gn od br)]) s.heap := by rw [← ew19]; exact hP
    have hD : va_D A (fl [(wO kC ad td rn pn an jn (if inR x 6 then rcT kd sR sT (nOf x) v u pn else tn) bm fw gp ga bp fc fj rA rC ft kd aG sR sT wh dY pd cN mN sv nd wr tl lt lT lD gv gn od br)]) := by rw [← ew19]; exact hD
    have ew20 : tl = (if inR x 6 then rcL kd sR sT wh tl (nOf x) v u pn else tl) := (if_neg hC).symm
    have hP : va_P D cls (fl [(wO kC ad td rn pn an jn (if inR x 6 then rcT kd sR sT (nOf x) v u pn else tn) bm fw gp ga bp fc fj rA rC ft kd aG sR sT wh dY pd cN mN sv nd wr (if inR x 6 then rcL kd sR sT wh tl (nOf x) v u pn else tl) lt lT lD gv gn od br)]) s.heap := by rw [← ew20]; exact hP
    have hD : va_D A (fl [(wO kC ad td rn pn an jn (if inR x 6 then rcT kd sR sT (nOf x) v u pn else tn) bm fw gp ga bp fc fj rA rC ft kd aG sR sT wh dY pd cN mN sv nd wr (if inR x 6 then rcL kd sR sT wh tl (nOf x) v u pn else tl) lt lT lD gv gn od br)]) := by rw [← ew20]; exact hD
    have ew21 : sT = (if inR x 6 then rcS kd sR sT (nOf x) v u pn else sT) := (if_neg hC).symm
    have hP : va_P D cls (fl [(wO kC ad td rn pn an jn (if inR x 6 then rcT kd sR sT (nOf x) v u pn else tn) bm fw gp ga bp fc fj rA rC ft kd aG sR (if inR x 6 then rcS kd sR sT (nOf x) v u pn else sT) wh dY pd cN mN sv nd wr (if inR x 6 then rcL kd sR sT wh tl (nOf x) v u pn else tl) lt lT lD gv gn od br)]) s.heap := by rw [← ew21]; exact hP
    have hD : va_D A (fl [(wO kC ad td rn pn an jn (if inR x 6 then rcT kd sR sT (nOf x) v u pn else tn) bm fw gp ga bp fc fj rA rC ft kd aG sR (if inR x 6 then rcS kd sR sT (nOf x) v u pn else sT) wh dY pd cN mN sv nd wr (if inR x 6 then rcL kd sR sT wh tl (nOf x) v u pn else tl) lt lT lD gv gn od br)]) := by rw [← ew21]; exact hD
    exact W.iret (v := (-1)) hx hb hr (fun t ht hW => by subst hAe; exact ⟨⟨(-1), (), rfl, (if_neg hC).symm, by rw [ht]; exact hP, va_K.moved hW.alike hK, hD⟩, hS.F ht⟩) (by subst hAe; exact hS.2.2) d_O_recall_8

abbrev b_O_gain : ByteArray := prog_9_method_25_code
def y_O_gain : MethodName := ⟨"PartShelvesModel", "gain", "(II)J"⟩
theorem d_O_gain_0 : decode b_O_gain 0 = .ok (.aload_n 0, 1) := by decide +kernel
theorem d_O_gain_1 : decode b_O_gain 1 = .ok (.getfield 148, 3) := by decide +kernel
theorem d_O_gain_4 : decode b_O_gain 4 = .ok (.ifCond .eq 36, 3) := by decide +kernel
theorem d_O_gain_7 : decode b_O_gain 7 = .ok (.iload_n 2, 1) := by decide +kernel
theorem d_O_gain_8 : decode b_O_gain 8 = .ok (.ifCond .lt 32, 3) := by decide +kernel
theorem d_O_gain_11 : decode b_O_gain 11 = .ok (.iload_n 1, 1) := by decide +kernel
theorem d_O_gain_12 : decode b_O_gain 12 = .ok (.ifCond .ne 11, 3) := by decide +kernel
theorem d_O_gain_15 : decode b_O_gain 15 = .ok (.iload_n 2, 1) := by decide +kernel
theorem d_O_gain_16 : decode b_O_gain 16 = .ok (.aload_n 0, 1) := by decide +kernel
theorem d_O_gain_17 : decode b_O_gain 17 = .ok (.getfield 134, 3) := by decide +kernel
theorem d_O_gain_20 : decode b_O_gain 20 = .ok (.if_icmp .lt 16, 3) := by decide +kernel
theorem d_O_gain_23 : decode b_O_gain 23 = .ok (.iload_n 1, 1) := by decide +kernel
theorem d_O_gain_24 : decode b_O_gain 24 = .ok (.iconst 1, 1) := by decide +kernel
theorem d_O_gain_25 : decode b_O_gain 25 = .ok (.if_icmp .ne 15, 3) := by decide +kernel
theorem d_O_gain_28 : decode b_O_gain 28 = .ok (.iload_n 2, 1) := by decide +kernel
theorem d_O_gain_29 : decode b_O_gain 29 = .ok (.aload_n 0, 1) := by decide +kernel
theorem d_O_gain_30 : decode b_O_gain 30 = .ok (.getfield 137, 3) := by decide +kernel
theorem d_O_gain_33 : decode b_O_gain 33 = .ok (.if_icmp .ge 7, 3) := by decide +kernel
theorem d_O_gain_36 : decode b_O_gain 36 = .ok (.iconst 1, 1) := by decide +kernel
theorem d_O_gain_37 : decode b_O_gain 37 = .ok (.goto 4, 3) := by decide +kernel
theorem d_O_gain_40 : decode b_O_gain 40 = .ok (.iconst 0, 1) := by decide +kernel
theorem d_O_gain_41 : decode b_O_gain 41 = .ok (.istore_n 3, 1) := by decide +kernel
theorem d_O_gain_42 : decode b_O_gain 42 = .ok (.iload_n 3, 1) := by decide +kernel
theorem d_O_gain_43 : decode b_O_gain 43 = .ok (.ifCond .eq 17, 3) := by decide +kernel
theorem d_O_gain_46 : decode b_O_gain 46 = .ok (.aload_n 0, 1) := by decide +kernel
theorem d_O_gain_47 : decode b_O_gain 47 = .ok (.getfield 72, 3) := by decide +kernel
theorem d_O_gain_50 : decode b_O_gain 50 = .ok (.bipush 8, 2) := by decide +kernel
theorem d_O_gain_52 : decode b_O_gain 52 = .ok (.iload_n 1, 1) := by decide +kernel
theorem d_O_gain_53 : decode b_O_gain 53 = .ok (.imul, 1) := by decide +kernel
theorem d_O_gain_54 : decode b_O_gain 54 = .ok (.iload_n 2, 1) := by decide +kernel
theorem d_O_gain_55 : decode b_O_gain 55 = .ok (.iadd, 1) := by decide +kernel
theorem d_O_gain_56 : decode b_O_gain 56 = .ok (.laload, 1) := by decide +kernel
theorem d_O_gain_57 : decode b_O_gain 57 = .ok (.goto 6, 3) := by decide +kernel
theorem d_O_gain_60 : decode b_O_gain 60 = .ok (.ldc2_w 115, 3) := by decide +kernel
theorem d_O_gain_63 : decode b_O_gain 63 = .ok (.lreturn, 1) := by decide +kernel
def w_O_gain : List Cond := .code y_O_gain b_O_gain 4 (some .long) :: ([.fieldLink "PartShelvesModel" 148 "PartShelvesModel" "isMatched" "Z", .fieldLink "PartShelvesModel" 134 "PartShelvesModel" "gainParts" "I", .fieldLink "PartShelvesModel" 137 "PartShelvesModel" "gainAsks" "I", .fieldLink "PartShelvesModel" 72 "PartShelvesModel" "gains" "[J", .constantLong "PartShelvesModel" 115 (-1)] ++ u_ws R_O F_O 36)
set_option maxHeartbeats 4000000 in
set_option maxRecDepth 100000 in
theorem c_O_gain (l : Launch) (D : va_G) (kC : Nat → ClassId) (ad : Nat → Nat) (td : Nat) (rn : Nat) (pn : Nat) (an : Nat) (jn : Nat) (tn : Nat) (bm : Int32) (fw : Int64) (gp : Nat) (ga : Nat) (bp : Int32) (fc : Int64) (fj : Nat) (rA : Nat → Nat) (rC : Nat → Nat) (ft : Nat → Int32) (kd : Nat → Nat) (aG : Nat → Nat) (sR : Nat → Nat) (sT : Nat → Nat) (wh : Nat → Nat) (dY : Nat → Nat) (pd : Nat → Nat) (cN : Nat → Nat) (mN : Nat → Nat) (sv : Nat → Int32) (nd : Nat → Nat) (wr : Nat → Nat) (tl : Nat → Nat) (lt : Nat → Int32) (lT : Nat → Nat) (lD : Nat → Nat) (gv : Nat → Int32) (gn : Nat → Int64) (od : Nat → Nat) (br : Nat → Nat) (x : Int32) (y : Int32) (hgp : gp ≤ 8) (hga : ga ≤ 8) : Met l y_O_gain w_O_gain ({ frames := 0, cells := 0, slots := 0, locals := 0 } : Room) (gPr cls D (tyL kC) [.ref (ad 0), .int x, .int y] (fl [(wO kC ad td rn pn an jn tn bm fw gp ga bp fc fj rA rC ft kd aG sR sT wh dY pd cN mN sv nd wr tl lt lT lD gv gn od br)])) (vp_Sl (fun r => r = (if (¬ bm = 0 ∧ ((x = nI 0 ∧ inR y gp) ∨ (x = nI 1 ∧ inR y ga))) then gn (8 * nOf x + nOf y) else -1))) 0 0 (fun _ => False) := by
  refine Met.ofW (cc := b_O_gain) (maxL := 4) (ret := (some .long)) (by decide) rfl ?_
  intro p e s m args below meth c s₁ B hml hv
  obtain ⟨rfl, hP, hK⟩ := hv
  have hx := B.exec
  have hb := B.bytes
  have hr := B.returns
  have hts := atoms_spec (ws := w_O_gain) B.pre
  have hown : s.vm.findClass R_O = some m.cls := findClass_of_methodNamed B.named
  have hlocks := B.notSynchronized
  have hl := lv_entry ([.ref (ad 0), .int x, .int y]) (n := 4) (Nat.le_of_ble_eq_true rfl)
  rw [lg_entry_eq]
  generalize (lg_sl ([.ref (ad 0), .int x, .int y]) ++ List.replicate (4 - (lg_sl ([.ref (ad 0), .int x, .int y])).length) Slot.unset).toArray = ls at hl ⊢
  have hl : lv_has ls 4 [(0, .ref (ad 0)), (1, .int x), (2, .int y)] := hl
  refine lv_aload_n hx hb d_O_gain_0 rfl (lv_at hl 0 rfl) ?_
  refine fv_get (ci := 7) (v := .int bm) (C := R_O) (T := F_O) (N := 36) hx hb hts (by decide +kernel) hown hK hP 0 0 rfl rfl rfl 25 (by decide) (hts (.fieldLink R_O 148 "PartShelvesModel" "isMatched" "Z") (by decide +kernel)) (fun _ h9 => h9) rfl d_O_gain_1 ?_
  refine lv_if_eq (tgt := 40) hx hb d_O_gain_4 (by decide) (fun hb0 => ?_) (fun hb0 => ?_)
  · refine lv_iconst (v := nI 0) hx hb d_O_gain_40 (by decide) ?_
    refine lv_istore_n (lv' := [(3, .int (nI 0)), (0, .ref (ad 0)), (1, .int x), (2, .int y)]) hx hb d_O_gain_41 rfl hl (by decide) rfl (fun ls hl => ?_)
    refine lv_iload_n hx hb d_O_gain_42 rfl (lv_at hl 0 rfl) ?_
    refine nv_if_eq (tgt := 60) hx hb d_O_gain_43 (by decide) (by decide) (fun c1 => ?_) (fun c1 => ?_)
    · refine lv_ldc2 (v := (-1)) hx hb hown (hts (.constantLong R_O 115 (-1)) (by decide +kernel)) d_O_gain_60 ?_
      exact W.lret (v := (-1)) hx hb hr (fun t ht hW => ⟨_, rfl, (if_neg (fun q => by first | exact q.1 hb0 | exact q.2.elim (fun z => inR_lt h0 z.2) (fun z => inR_lt h0 z.2) | exact q.2.elim (fun z => h1 (by obtain ⟨k, hk, e⟩ := inR_n (by omega) z.2; rw [e]; exact nI_lt hk (by omega))) (fun z => by first | exact h2 z.1 | exact inR_ge (by omega) h3 z.2) | exact q.2.elim (fun z => hx0 z.1) (fun z => by first | exact h2 z.1 | exact inR_ge (by omega) h3 z.2))).symm, ht⟩) t_nil d_O_gain_63
    · exact absurd c1 (by decide)
  · refine lv_iload_n hx hb d_O_gain_7 rfl (lv_at hl 2 rfl) ?_
    refine lv_if_lt (tgt := 40) hx hb d_O_gain_8 (by decide) (fun h0 => ?_) (fun h0 => ?_)
    · refine lv_iconst (v := nI 0) hx hb d_O_gain_40 (by decide) ?_
      refine lv_istore_n (lv' := [(3, .int (nI 0)), (0, .ref (ad 0)), (1, .int x), (2, .int y)]) hx hb d_O_gain_41 rfl hl (by decide) rfl (fun ls hl => ?_)
      refine lv_iload_n hx hb d_O_gain_42 rfl (lv_at hl 0 rfl) ?_
      refine nv_if_eq (tgt := 60) hx hb d_O_gain_43 (by decide) (by decide) (fun c2 => ?_) (fun c2 => ?_)
      · refine lv_ldc2 (v := (-1)) hx hb hown (hts (.constantLong R_O 115 (-1)) (by decide +kernel)) d_O_gain_60 ?_
        exact W.lret (v := (-1)) hx hb hr (fun t ht hW => ⟨_, rfl, (if_neg (fun q => by first | exact q.1 hb0 | exact q.2.elim (fun z => inR_lt h0 z.2) (fun z => inR_lt h0 z.2) | exact q.2.elim (fun z => h1 (by obtain ⟨k, hk, e⟩ := inR_n (by omega) z.2; rw [e]; exact nI_lt hk (by omega))) (fun z => by first | exact h2 z.1 | exact inR_ge (by omega) h3 z.2) | exact q.2.elim (fun z => hx0 z.1) (fun z => by first | exact h2 z.1 | exact inR_ge (by omega) h3 z.2))).symm, ht⟩) t_nil d_O_gain_63
      · exact absurd c2 (by decide)
    · refine lv_iload_n hx hb d_O_gain_11 rfl (lv_at hl 1 rfl) ?_
      refine lv_if_ne (tgt := 23) hx hb d_O_gain_12 (by decide) (fun hx0 => ?_) (fun hx0 => ?_)
      · refine lv_iload_n hx hb d_O_gain_23 rfl (lv_at hl 1 rfl) ?_
        refine lv_iconst (v := nI 1) hx hb d_O_gain_24 (by decide) ?_
        refine lv_icmp_ne (tgt := 40) hx hb d_O_gain_25 (by decide) (fun h2 => ?_) (fun h2 => ?_)
        · refine lv_iconst (v := nI 0) hx hb d_O_gain_40 (by decide) ?_
          refine lv_istore_n (lv' := [(3, .int (nI 0)), (0, .ref (ad 0)), (1, .int x), (2, .int y)]) hx hb d_O_gain_41 rfl hl (by decide) rfl (fun ls hl => ?_)
          refine lv_iload_n hx hb d_O_gain_42 rfl (lv_at hl 0 rfl) ?_
          refine nv_if_eq (tgt := 60) hx hb d_O_gain_43 (by decide) (by decide) (fun c3 => ?_) (fun c3 => ?_)
          · refine lv_ldc2 (v := (-1)) hx hb hown (hts (.constantLong R_O 115 (-1)) (by decide +kernel)) d_O_gain_60 ?_
            exact W.lret (v := (-1)) hx hb hr (fun t ht hW => ⟨_, rfl, (if_neg (fun q => by first | exact q.1 hb0 | exact q.2.elim (fun z => inR_lt h0 z.2) (fun z => inR_lt h0 z.2) | exact q.2.elim (fun z => h1 (by obtain ⟨k, hk, e⟩ := inR_n (by omega) z.2; rw [e]; exact nI_lt hk (by omega))) (fun z => by first | exact h2 z.1 | exact inR_ge (by omega) h3 z.2) | exact q.2.elim (fun z => hx0 z.1) (fun z => by first | exact h2 z.1 | exact inR_ge (by omega) h3 z.2))).symm, ht⟩) t_nil d_O_gain_63
          · exact absurd c3 (by decide)
        · refine lv_iload_n hx hb d_O_gain_28 rfl (lv_at hl 2 rfl) ?_
          refine lv_aload_n hx hb d_O_gain_29 rfl (lv_at hl 0 rfl) ?_
          refine fv_get (ci := 7) (v := .int (nI ga)) (C := R_O) (T := F_O) (N := 36) hx hb hts (by decide +kernel) hown hK hP 0 0 rfl rfl rfl 29 (by decide) (hts (.fieldLink R_O 137 "PartShelvesModel" "gainAsks" "I") (by decide +kernel)) (fun _ h9 => h9) rfl d_O_gain_30 ?_
          refine lv_icmp_ge (tgt := 40) hx hb d_O_gain_33 (by decide) (fun h3 => ?_) (fun h3 => ?_)
          · refine lv_iconst (v := nI 0) hx hb d_O_gain_40 (by decide) ?_
            refine lv_istore_n (lv' := [(3, .int (nI 0)), (0, .ref (ad 0)), (1, .int x), (2, .int y)]) hx hb d_O_gain_41 rfl hl (by decide) rfl (fun ls hl => ?_)
            refine lv_iload_n hx hb d_O_gain_42 rfl (lv_at hl 0 rfl) ?_
            refine nv_if_eq (tgt := 60) hx hb d_O_gain_43 (by decide) (by decide) (fun c4 => ?_) (fun c4 => ?_)
            · refine lv_ldc2 (v := (-1)) hx hb hown (hts (.constantLong R_O 115 (-1)) (by decide +kernel)) d_O_gain_60 ?_
              exact W.lret (v := (-1)) hx hb hr (fun t ht hW => ⟨_, rfl, (if_neg (fun q => by first | exact q.1 hb0 | exact q.2.elim (fun z => inR_lt h0 z.2) (fun z => inR_lt h0 z.2) | exact q.2.elim (fun z => h1 (by obtain ⟨k, hk, e⟩ := inR_n (by omega) z.2; rw [e]; exact nI_lt hk (by omega))) (fun z => by first | exact h2 z.1 | exact inR_ge (by omega) h3 z.2) | exact q.2.elim (fun z => hx0 z.1) (fun z => by first | exact h2 z.1 | exact inR_ge (by omega) h3 z.2))).symm, ht⟩) t_nil d_O_gain_63
            · exact absurd c4 (by decide)
          · obtain rfl : x = nI 1 := h2
            obtain ⟨k, hk, rfl⟩ := in_of (by omega) h0 h3
            refine lv_iconst (v := nI 1) hx hb d_O_gain_36 (by decide) ?_
            refine lv_goto (tgt := 41) hx hb d_O_gain_37 (by decide) ?_
            refine lv_istore_n (lv' := [(3, .int (nI 1)), (0, .ref (ad 0)), (1, .int (nI 1)), (2, .int (nI k))]) hx hb d_O_gain_41 rfl hl (by decide) rfl (fun ls hl => ?_)
            refine lv_iload_n hx hb d_O_gain_42 rfl (lv_at hl 0 rfl) ?_
            refine nv_if_eq (tgt := 60) hx hb d_O_gain_43 (by decide) (by decide) (fun c5 => ?_) (fun c5 => ?_)
            · exact absurd c5 (by decide)
            · refine lv_aload_n hx hb d_O_gain_46 rfl (lv_at hl 1 rfl) ?_
              refine fv_get (ci := 7) (v := .ref (ad 21)) (C := R_O) (T := F_O) (N := 36) hx hb hts (by decide +kernel) hown hK hP 0 0 rfl rfl rfl 30 (by decide) (hts (.fieldLink R_O 72 "PartShelvesModel" "gains" "[J") (by decide +kernel)) (fun _ h9 => h9) rfl d_O_gain_47 ?_
              refine lv_bipush (v := nI 8) hx hb d_O_gain_50 (by decide +kernel) ?_
              refine lv_iload_n hx hb d_O_gain_52 rfl (lv_at hl 2 rfl) ?_
              refine nv_imul hx hb d_O_gain_53 ?_
              refine lv_iload_n hx hb d_O_gain_54 rfl (lv_at hl 3 rfl) ?_
              refine nv_iadd hx hb d_O_gain_55 ?_
              refine fa_lald hx hb hK hP 0 21 1 rfl rfl rfl (by omega) (by decide) d_O_gain_56 ?_
              refine lv_goto (tgt := 63) hx hb d_O_gain_57 (by decide) ?_
              exact W.lret (v := gn (8 * 1 + k)) hx hb hr (fun t ht hW => ⟨_, rfl, by rw [if_pos ⟨hb0, by first | exact Or.inl ⟨rfl, (inR_nI (by omega)).mpr hk⟩ | exact Or.inr ⟨rfl, (inR_nI (by omega)).mpr hk⟩⟩, nOf_nI (by decide), nOf_nI (by omega)], ht⟩) t_nil d_O_gain_63
      · refine lv_iload_n hx hb d_O_gain_15 rfl (lv_at hl 2 rfl) ?_
        refine lv_aload_n hx hb d_O_gain_16 rfl (lv_at hl 0 rfl) ?_
        refine fv_get (ci := 7) (v := .int (nI gp)) (C := R_O) (T := F_O) (N := 36) hx hb hts (by decide +kernel) hown hK hP 0 0 rfl rfl rfl 28 (by decide) (hts (.fieldLink R_O 134 "PartShelvesModel" "gainParts" "I") (by decide +kernel)) (fun _ h9 => h9) rfl d_O_gain_17 ?_
        refine lv_icmp_lt (tgt := 36) hx hb d_O_gain_20 (by decide) (fun h1 => ?_) (fun h1 => ?_)
        · obtain rfl : x = nI 0 := hx0
          obtain ⟨k, hk, rfl⟩ := in_of (by omega) h0 (Int32.not_le.mpr h1)
          refine lv_iconst (v := nI 1) hx hb d_O_gain_36 (by decide) ?_
          refine lv_goto (tgt := 41) hx hb d_O_gain_37 (by decide) ?_
          refine lv_istore_n (lv' := [(3, .int (nI 1)), (0, .ref (ad 0)), (1, .int (nI 0)), (2, .int (nI k))]) hx hb d_O_gain_41 rfl hl (by decide) rfl (fun ls hl => ?_)
          refine lv_iload_n hx hb d_O_gain_42 rfl (lv_at hl 0 rfl) ?_
          refine nv_if_eq (tgt := 60) hx hb d_O_gain_43 (by decide) (by decide) (fun c6 => ?_) (fun c6 => ?_)
          · exact absurd c6 (by decide)
          · refine lv_aload_n hx hb d_O_gain_46 rfl (lv_at hl 1 rfl) ?_
            refine fv_get (ci := 7) (v := .ref (ad 21)) (C := R_O) (T := F_O) (N := 36) hx hb hts (by decide +kernel) hown hK hP 0 0 rfl rfl rfl 30 (by decide) (hts (.fieldLink R_O 72 "PartShelvesModel" "gains" "[J") (by decide +kernel)) (fun _ h9 => h9) rfl d_O_gain_47 ?_
            refine lv_bipush (v := nI 8) hx hb d_O_gain_50 (by decide +kernel) ?_
            refine lv_iload_n hx hb d_O_gain_52 rfl (lv_at hl 2 rfl) ?_
            refine nv_imul hx hb d_O_gain_53 ?_
            refine lv_iload_n hx hb d_O_gain_54 rfl (lv_at hl 3 rfl) ?_
            refine nv_iadd hx hb d_O_gain_55 ?_
            refine fa_lald hx hb hK hP 0 21 1 rfl rfl rfl (by omega) (by decide) d_O_gain_56 ?_
            refine lv_goto (tgt := 63) hx hb d_O_gain_57 (by decide) ?_
            exact W.lret (v := gn (8 * 0 + k)) hx hb hr (fun t ht hW => ⟨_, rfl, by rw [if_pos ⟨hb0, by first | exact Or.inl ⟨rfl, (inR_nI (by omega)).mpr hk⟩ | exact Or.inr ⟨rfl, (inR_nI (by omega)).mpr hk⟩⟩, nOf_nI (by decide), nOf_nI (by omega)], ht⟩) t_nil d_O_gain_63
        · refine lv_iload_n hx hb d_O_gain_23 rfl (lv_at hl 1 rfl) ?_
          refine lv_iconst (v := nI 1) hx hb d_O_gain_24 (by decide) ?_
          refine lv_icmp_ne (tgt := 40) hx hb d_O_gain_25 (by decide) (fun h2 => ?_) (fun h2 => ?_)
          · refine lv_iconst (v := nI 0) hx hb d_O_gain_40 (by decide) ?_
            refine lv_istore_n (lv' := [(3, .int (nI 0)), (0, .ref (ad 0)), (1, .int x), (2, .int y)]) hx hb d_O_gain_41 rfl hl (by decide) rfl (fun ls hl => ?_)
            refine lv_iload_n hx hb d_O_gain_42 rfl (lv_at hl 0 rfl) ?_
            refine nv_if_eq (tgt := 60) hx hb d_O_gain_43 (by decide) (by decide) (fun c7 => ?_) (fun c7 => ?_)
            · refine lv_ldc2 (v := (-1)) hx hb hown (hts (.constantLong R_O 115 (-1)) (by decide +kernel)) d_O_gain_60 ?_
              exact W.lret (v := (-1)) hx hb hr (fun t ht hW => ⟨_, rfl, (if_neg (fun q => by first | exact q.1 hb0 | exact q.2.elim (fun z => inR_lt h0 z.2) (fun z => inR_lt h0 z.2) | exact q.2.elim (fun z => h1 (by obtain ⟨k, hk, e⟩ := inR_n (by omega) z.2; rw [e]; exact nI_lt hk (by omega))) (fun z => by first | exact h2 z.1 | exact inR_ge (by omega) h3 z.2) | exact q.2.elim (fun z => hx0 z.1) (fun z => by first | exact h2 z.1 | exact inR_ge (by omega) h3 z.2))).symm, ht⟩) t_nil d_O_gain_63
            · exact absurd c7 (by decide)
          · refine lv_iload_n hx hb d_O_gain_28 rfl (lv_at hl 2 rfl) ?_
            refine lv_aload_n hx hb d_O_gain_29 rfl (lv_at hl 0 rfl) ?_
            refine fv_get (ci := 7) (v := .int (nI ga)) (C := R_O) (T := F_O) (N := 36) hx hb hts (by decide +kernel) hown hK hP 0 0 rfl rfl rfl 29 (by decide) (hts (.fieldLink R_O 137 "PartShelvesModel" "gainAsks" "I") (by decide +kernel)) (fun _ h9 => h9) rfl d_O_gain_30 ?_
            refine lv_icmp_ge (tgt := 40) hx hb d_O_gain_33 (by decide) (fun h3 => ?_) (fun h3 => ?_)
            · refine lv_iconst (v := nI 0) hx hb d_O_gain_40 (by decide) ?_
              refine lv_istore_n (lv' := [(3, .int (nI 0)), (0, .ref (ad 0)), (1, .int x), (2, .int y)]) hx hb d_O_gain_41 rfl hl (by decide) rfl (fun ls hl => ?_)
              refine lv_iload_n hx hb d_O_gain_42 rfl (lv_at hl 0 rfl) ?_
              refine nv_if_eq (tgt := 60) hx hb d_O_gain_43 (by decide) (by decide) (fun c8 => ?_) (fun c8 => ?_)
              · refine lv_ldc2 (v := (-1)) hx hb hown (hts (.constantLong R_O 115 (-1)) (by decide +kernel)) d_O_gain_60 ?_
                exact W.lret (v := (-1)) hx hb hr (fun t ht hW => ⟨_, rfl, (if_neg (fun q => by first | exact q.1 hb0 | exact q.2.elim (fun z => inR_lt h0 z.2) (fun z => inR_lt h0 z.2) | exact q.2.elim (fun z => h1 (by obtain ⟨k, hk, e⟩ := inR_n (by omega) z.2; rw [e]; exact nI_lt hk (by omega))) (fun z => by first | exact h2 z.1 | exact inR_ge (by omega) h3 z.2) | exact q.2.elim (fun z => hx0 z.1) (fun z => by first | exact h2 z.1 | exact inR_ge (by omega) h3 z.2))).symm, ht⟩) t_nil d_O_gain_63
              · exact absurd c8 (by decide)
            · obtain rfl : x = nI 1 := h2
              obtain ⟨k, hk, rfl⟩ := in_of (by omega) h0 h3
              refine lv_iconst (v := nI 1) hx hb d_O_gain_36 (by decide) ?_
              refine lv_goto (tgt := 41) hx hb d_O_gain_37 (by decide) ?_
              refine lv_istore_n (lv' := [(3, .int (nI 1)), (0, .ref (ad 0)), (1, .int (nI 1)), (2, .int (nI k))]) hx hb d_O_gain_41 rfl hl (by decide) rfl (fun ls hl => ?_)
              refine lv_iload_n hx hb d_O_gain_42 rfl (lv_at hl 0 rfl) ?_
              refine nv_if_eq (tgt := 60) hx hb d_O_gain_43 (by decide) (by decide) (fun c9 => ?_) (fun c9 => ?_)
              · exact absurd c9 (by decide)
              · refine lv_aload_n hx hb d_O_gain_46 rfl (lv_at hl 1 rfl) ?_
                refine fv_get (ci := 7) (v := .ref (ad 21)) (C := R_O) (T := F_O) (N := 36) hx hb hts (by decide +kernel) hown hK hP 0 0 rfl rfl rfl 30 (by decide) (hts (.fieldLink R_O 72 "PartShelvesModel" "gains" "[J") (by decide +kernel)) (fun _ h9 => h9) rfl d_O_gain_47 ?_
                refine lv_bipush (v := nI 8) hx hb d_O_gain_50 (by decide +kernel) ?_
                refine lv_iload_n hx hb d_O_gain_52 rfl (lv_at hl 2 rfl) ?_
                refine nv_imul hx hb d_O_gain_53 ?_
                refine lv_iload_n hx hb d_O_gain_54 rfl (lv_at hl 3 rfl) ?_
                refine nv_iadd hx hb d_O_gain_55 ?_
                refine fa_lald hx hb hK hP 0 21 1 rfl rfl rfl (by omega) (by decide) d_O_gain_56 ?_
                refine lv_goto (tgt := 63) hx hb d_O_gain_57 (by decide) ?_
                exact W.lret (v := gn (8 * 1 + k)) hx hb hr (fun t ht hW => ⟨_, rfl, by rw [if_pos ⟨hb0, by first | exact Or.inl ⟨rfl, (inR_nI (by omega)).mpr hk⟩ | exact Or.inr ⟨rfl, (inR_nI (by omega)).mpr hk⟩⟩, nOf_nI (by decide), nOf_nI (by omega)], ht⟩) t_nil d_O_gain_63

/-- how many jobs a set has -/
def szM (z : Nat) : Nat → Nat
  | 0 => 0
  | j + 1 => szM z j + z / 2 ^ j % 2
theorem szM_le (z : Nat) : ∀ j, szM z j ≤ j
  | 0 => Nat.le_refl 0
  | j + 1 => by
    have := szM_le z j
    show szM z j + z / 2 ^ j % 2 ≤ j + 1
    omega
abbrev b_O_sizeOf : ByteArray := prog_9_method_31_code
def y_O_sizeOf : MethodName := ⟨"PartShelvesModel", "sizeOf", "(I)I"⟩
theorem d_O_sizeOf_0 : decode b_O_sizeOf 0 = .ok (.iconst 0, 1) := by decide +kernel
theorem d_O_sizeOf_1 : decode b_O_sizeOf 1 = .ok (.istore_n 2, 1) := by decide +kernel
theorem d_O_sizeOf_2 : decode b_O_sizeOf 2 = .ok (.iconst 0, 1) := by decide +kernel
theorem d_O_sizeOf_3 : decode b_O_sizeOf 3 = .ok (.istore_n 3, 1) := by decide +kernel
theorem d_O_sizeOf_4 : decode b_O_sizeOf 4 = .ok (.iload_n 3, 1) := by decide +kernel
theorem d_O_sizeOf_5 : decode b_O_sizeOf 5 = .ok (.bipush 6, 2) := by decide +kernel
theorem d_O_sizeOf_7 : decode b_O_sizeOf 7 = .ok (.if_icmp .ge 17, 3) := by decide +kernel
theorem d_O_sizeOf_10 : decode b_O_sizeOf 10 = .ok (.iload_n 2, 1) := by decide +kernel
theorem d_O_sizeOf_11 : decode b_O_sizeOf 11 = .ok (.iload_n 1, 1) := by decide +kernel
theorem d_O_sizeOf_12 : decode b_O_sizeOf 12 = .ok (.iload_n 3, 1) := by decide +kernel
theorem d_O_sizeOf_13 : decode b_O_sizeOf 13 = .ok (.ishr, 1) := by decide +kernel
theorem d_O_sizeOf_14 : decode b_O_sizeOf 14 = .ok (.iconst 1, 1) := by decide +kernel
theorem d_O_sizeOf_15 : decode b_O_sizeOf 15 = .ok (.iand, 1) := by decide +kernel
theorem d_O_sizeOf_16 : decode b_O_sizeOf 16 = .ok (.iadd, 1) := by decide +kernel
theorem d_O_sizeOf_17 : decode b_O_sizeOf 17 = .ok (.istore_n 2, 1) := by decide +kernel
theorem d_O_sizeOf_18 : decode b_O_sizeOf 18 = .ok (.iinc 3 1, 3) := by decide +kernel
theorem d_O_sizeOf_21 : decode b_O_sizeOf 21 = .ok (.goto (-17), 3) := by decide +kernel
theorem d_O_sizeOf_24 : decode b_O_sizeOf 24 = .ok (.iload_n 2, 1) := by decide +kernel
theorem d_O_sizeOf_25 : decode b_O_sizeOf 25 = .ok (.ireturn, 1) := by decide +kernel
def w_O_sizeOf : List Cond := .code y_O_sizeOf b_O_sizeOf 4 (some .int) :: ([])
set_option maxHeartbeats 4000000 in
set_option maxRecDepth 100000 in
theorem c_O_sizeOf (l : Launch) (D : va_G) (kC : Nat → ClassId) (ad : Nat → Nat) (td : Nat) (rn : Nat) (pn : Nat) (an : Nat) (jn : Nat) (tn : Nat) (bm : Int32) (fw : Int64) (gp : Nat) (ga : Nat) (bp : Int32) (fc : Int64) (fj : Nat) (rA : Nat → Nat) (rC : Nat → Nat) (ft : Nat → Int32) (kd : Nat → Nat) (aG : Nat → Nat) (sR : Nat → Nat) (sT : Nat → Nat) (wh : Nat → Nat) (dY : Nat → Nat) (pd : Nat → Nat) (cN : Nat → Nat) (mN : Nat → Nat) (sv : Nat → Int32) (nd : Nat → Nat) (wr : Nat → Nat) (tl : Nat → Nat) (lt : Nat → Int32) (lT : Nat → Nat) (lD : Nat → Nat) (gv : Nat → Int32) (gn : Nat → Int64) (od : Nat → Nat) (br : Nat → Nat) (z : Nat) (hz : z < 64) : Met l y_O_sizeOf w_O_sizeOf ({ frames := 0, cells := 0, slots := 0, locals := 0 } : Room) (gPr cls D (tyL kC) [.ref (ad 0), .int (nI z)] (fl [(wO kC ad td rn pn an jn tn bm fw gp ga bp fc fj rA rC ft kd aG sR sT wh dY pd cN mN sv nd wr tl lt lT lD gv gn od br)])) (vp_Si (fun r => r = nI (szM z 6))) 0 0 (fun _ => False) := by
  refine Met.ofW (cc := b_O_sizeOf) (maxL := 4) (ret := (some .int)) (by decide) rfl ?_
  intro p e s m args below meth c s₁ B hml hv
  obtain ⟨rfl, hP, hK⟩ := hv
  have hx := B.exec
  have hb := B.bytes
  have hr := B.returns
  have hts := atoms_spec (ws := w_O_sizeOf) B.pre
  have hown : s.vm.findClass R_O = some m.cls := findClass_of_methodNamed B.named
  have hlocks := B.notSynchronized
  have hl := lv_entry ([.ref (ad 0), .int (nI z)]) (n := 4) (Nat.le_of_ble_eq_true rfl)
  rw [lg_entry_eq]
  generalize (lg_sl ([.ref (ad 0), .int (nI z)]) ++ List.replicate (4 - (lg_sl ([.ref (ad 0), .int (nI z)])).length) Slot.unset).toArray = ls at hl ⊢
  have hl : lv_has ls 4 [(0, .ref (ad 0)), (1, .int (nI z))] := hl
  refine lv_iconst (v := nI 0) hx hb d_O_sizeOf_0 (by decide) ?_
  refine lv_istore_n (lv' := [(2, .int (nI 0)), (0, .ref (ad 0)), (1, .int (nI z))]) hx hb d_O_sizeOf_1 rfl hl (by decide) rfl (fun ls hl => ?_)
  refine lv_iconst (v := nI 0) hx hb d_O_sizeOf_2 (by decide) ?_
  refine lv_istore_n (lv' := [(3, .int (nI 0)), (2, .int (nI 0)), (0, .ref (ad 0)), (1, .int (nI z))]) hx hb d_O_sizeOf_3 rfl hl (by decide) rfl (fun ls hl => ?_)
  have L4 : ∀ (n4 : Nat) (j : Nat), 6 - j < n4 → j ≤ 6 → ∀ (ls : Array Slot), lv_has ls 4 [(0, .ref (ad 0)), (1, .int (nI z)), (2, .int (nI (szM z j))), (3, .int (nI j))] → W p l e (headSpec w_O_sizeOf ({ frames := 0, cells := 0, slots := 0, locals := 0 } : Room)).room s m ([.ref (ad 0), .int (nI z)] : List Value).toArray below meth c s.heap [] 0 0 (MQ below (vp_Si (fun r => r = nI (szM z 6))) ([.ref (ad 0), .int (nI z)] : List Value).toArray s 0 0 (fun _ => False)) (F0 m 4 ls []) := by
    intro n4
    induction n4 with
    | zero =>
      intro j hm
      exact absurd hm (Nat.not_lt_zero _)
    | succ n4 ih4 =>
      intro j hm hj6 ls hl
      refine lv_iload_n hx hb d_O_sizeOf_4 rfl (lv_at hl 3 rfl) ?_
      refine lv_bipush (v := nI 6) hx hb d_O_sizeOf_5 (by decide +kernel) ?_
      refine nv_icmp_ge (tgt := 24) hx hb d_O_sizeOf_7 (by decide) (by omega) (by omega) (fun hj => ?_) (fun hj => ?_)
      · obtain rfl : j = 6 := by omega
        refine lv_iload_n hx hb d_O_sizeOf_24 rfl (lv_at hl 2 rfl) ?_
        exact W.iret (v := nI (szM z 6)) hx hb hr (fun t ht hW => ⟨_, rfl, rfl, ht⟩) t_nil d_O_sizeOf_25
      · refine lv_iload_n hx hb d_O_sizeOf_10 rfl (lv_at hl 2 rfl) ?_
        refine lv_iload_n hx hb d_O_sizeOf_11 rfl (lv_at hl 1 rfl) ?_
        refine lv_iload_n hx hb d_O_sizeOf_12 rfl (lv_at hl 3 rfl) ?_
        refine lv_ishr hx hb d_O_sizeOf_13 ?_
        refine lv_iconst (v := nI 1) hx hb d_O_sizeOf_14 (by decide) ?_
        refine lv_iand hx hb d_O_sizeOf_15 ?_
        refine nv_topi (y := nI (z / 2 ^ j % 2)) (bitI (by omega) (by omega)) ?_
        refine nv_iadd hx hb d_O_sizeOf_16 ?_
        refine lv_istore_n (lv' := [(2, .int (nI (szM z j + z / 2 ^ j % 2))), (0, .ref (ad 0)), (1, .int (nI z)), (3, .int (nI j))]) hx hb d_O_sizeOf_17 rfl hl (by decide) rfl (fun ls hl => ?_)
        refine lv_iinc (v := nI (j + 1)) (lv' := [(3, .int (nI (j + 1))), (2, .int (nI (szM z j + z / 2 ^ j % 2))), (0, .ref (ad 0)), (1, .int (nI z))]) hx hb d_O_sizeOf_18 hl (k := 3) rfl (nI_1 j) (by decide) rfl (fun ls hl => ?_)
        refine lv_goto (tgt := 4) hx hb d_O_sizeOf_21 (by decide) ?_
        exact ih4 (j + 1) (by omega) (hj) ls (lv_sub hl [2, 3, 1, 0] rfl)
  exact L4 _ 0 (Nat.lt_succ_self _) (by decide) ls (lv_sub hl [2, 3, 1, 0] rfl)
end
section
/-! what the reference's sorting and its greatest() do to their rows -/
def insP (mN od : Nat → Nat) (k : Nat) : Nat → Nat
  | 0 => 0
  | b + 1 => if mN k < mN (od b) then insP mN od k b else b + 1
def insS (od : Nat → Nat) (n b : Nat) : Nat → Nat := fun j => if b < j ∧ j ≤ n then od (j - 1) else od j
def insO (od : Nat → Nat) (n b k : Nat) : Nat → Nat := updN (insS od n b) b k
theorem insS_n (od : Nat → Nat) (n : Nat) : insS od n n = od := by
  funext j
  simp only [insS]
  rw [if_neg (by omega)]
theorem insS_lt (od : Nat → Nat) (n b j : Nat) (h : j ≤ b) : insS od n b j = od j := if_neg (by omega)
theorem insS_s (od : Nat → Nat) (n b : Nat) (h0 : 0 < b) (hn : b ≤ n) : updN (insS od n b) b (od (b - 1)) = insS od n (b - 1) := by
  funext j
  simp only [updN, insS]
  by_cases h : j = b
  · subst h
    rw [if_pos rfl, if_pos (by omega)]
  · rw [if_neg h]
    by_cases h2 : b < j ∧ j ≤ n
    · rw [if_pos h2, if_pos (by omega)]
    · rw [if_neg h2, if_neg (by omega)]
theorem insO_lt {od : Nat → Nat} {n b k B : Nat} (h : ∀ j, od j < B) (hk : k < B) : ∀ j, insO od n b k j < B := fun j => by
  simp only [insO, updN, insS]
  split
  · exact hk
  · split
    · exact h _
    · exact h _
def srN (sv : Nat → Int32) : Nat → Nat
  | 0 => 0
  | k + 1 => if sv k = 0 then srN sv k + 1 else srN sv k
def srO (sv : Nat → Int32) (mN od : Nat → Nat) : Nat → Nat → Nat
  | 0 => od
  | k + 1 => if sv k = 0 then insO (srO sv mN od k) (srN sv k) (insP mN (srO sv mN od k) k (srN sv k)) k else srO sv mN od k
theorem srN_le (sv : Nat → Int32) : ∀ k, srN sv k ≤ k
  | 0 => Nat.le_refl 0
  | k + 1 => by
    have := srN_le sv k
    show (if sv k = 0 then srN sv k + 1 else srN sv k) ≤ k + 1
    split <;> omega
theorem srO_lt {sv : Nat → Int32} {mN od : Nat → Nat} (h : ∀ j, od j < 8) : ∀ k, k ≤ 8 → ∀ j, srO sv mN od k j < 8
  | 0, _ => h
  | k + 1, hk => by
    have ih := srO_lt (sv := sv) (mN := mN) h k (by omega)
    intro j
    show (if sv k = 0 then insO (srO sv mN od k) (srN sv k) (insP mN (srO sv mN od k) k (srN sv k)) k else srO sv mN od k) j < 8
    split
    · exact insO_lt ih (by omega) j
    · exact ih j
/-- one ask's best, by the sets of parts that are used already -/
def rwG (w : Nat → Option Nat) (g : Nat → Nat) (z : Nat) : Nat → Nat
  | 0 => g z
  | q + 1 => match w q with
    | some v => if z / 2 ^ q % 2 = 0 then max (rwG w g z q) (v + g (z ||| 2 ^ q)) else rwG w g z q
    | none => rwG w g z q
/-- the greatest worth of the last r asks in order -/
def gO (w : Nat → Nat → Option Nat) (pn n : Nat) : Nat → Nat → Nat
  | 0, _ => 0
  | r + 1, z => rwG (w (n - 1 - r)) (gO w pn n r) z pn
theorem rwG_le {w : Nat → Option Nat} {g : Nat → Nat} {B C : Nat} (hg : ∀ z, g z ≤ B) (hw : ∀ q v, w q = some v → v ≤ C) (z : Nat) : ∀ q, rwG w g z q ≤ B + C
  | 0 => Nat.le_trans (hg z) (Nat.le_add_right _ _)
  | q + 1 => by
    have ih := rwG_le hg hw z q
    simp only [rwG]
    cases hq : w q with
    | none => exact ih
    | some v =>
      have h1 := hw q v hq
      have h2 := hg (z ||| 2 ^ q)
      show (if z / 2 ^ q % 2 = 0 then max (rwG w g z q) (v + g (z ||| 2 ^ q)) else rwG w g z q) ≤ B + C
      split
      · exact Nat.max_le.mpr ⟨ih, by omega⟩
      · exact ih
theorem gO_le {w : Nat → Nat → Option Nat} {pn n C : Nat} (hw : ∀ i q v, w i q = some v → v ≤ C) : ∀ r z, gO w pn n r z ≤ r * C
  | 0, _ => Nat.zero_le _
  | r + 1, z => by
    have h := rwG_le (w := w (n - 1 - r)) (g := gO w pn n r) (fun z => gO_le hw r z) (fun q v h => hw _ q v h) z pn
    show rwG (w (n - 1 - r)) (gO w pn n r) z pn ≤ (r + 1) * C
    rw [Nat.succ_mul]
    exact h
/-- the table: the rows from n down to n - r are done -/
def brF (w : Nat → Nat → Option Nat) (pn n : Nat) (br : Nat → Nat) (r : Nat) : Nat → Nat := fun j => if 256 * (n - r) ≤ j ∧ j < 256 * (n + 1) then gO w pn n (n - j / 256) (j % 256) else br j
def brP (w : Nat → Nat → Option Nat) (pn n : Nat) (br : Nat → Nat) (r t : Nat) : Nat → Nat := fun j => if 256 * (n - 1 - r) ≤ j ∧ j < 256 * (n - 1 - r) + t then gO w pn n (r + 1) (j - 256 * (n - 1 - r)) else brF w pn n br r j
def brZ (n : Nat) (br : Nat → Nat) (t : Nat) : Nat → Nat := fun j => if 256 * n ≤ j ∧ j < 256 * n + t then 0 else br j
theorem brZ_0 (n : Nat) (br : Nat → Nat) : brZ n br 0 = br := by
  funext j
  simp only [brZ]
  rw [if_neg (by omega)]
theorem brZ_s (n : Nat) (br : Nat → Nat) (t : Nat) : updN (brZ n br t) (256 * n + t) 0 = brZ n br (t + 1) := by
  funext j
  simp only [updN, brZ]
  by_cases h : j = 256 * n + t
  · rw [if_pos h, if_pos (by omega)]
  · rw [if_neg h]
    by_cases h2 : 256 * n ≤ j ∧ j < 256 * n + t
    · rw [if_pos h2, if_pos (by omega)]
    · rw [if_neg h2, if_neg (by omega)]
theorem brF_0 (w : Nat → Nat → Option Nat) (pn n : Nat) (br : Nat → Nat) : brZ n br 256 = brF w pn n br 0 := by
  funext j
  simp only [brZ, brF, Nat.sub_zero]
  by_cases h : 256 * n ≤ j ∧ j < 256 * n + 256
  · have e : n - j / 256 = 0 := by omega
    rw [if_pos h, if_pos (by omega), e]
    rfl
  · rw [if_neg h, if_neg (by omega)]
theorem brP_0 (w : Nat → Nat → Option Nat) (pn n : Nat) (br : Nat → Nat) (r : Nat) : brP w pn n br r 0 = brF w pn n br r := by
  funext j
  simp only [brP]
  rw [if_neg (by omega)]
theorem brP_s (w : Nat → Nat → Option Nat) (pn n : Nat) (br : Nat → Nat) (r t : Nat) : updN (brP w pn n br r t) (256 * (n - 1 - r) + t) (gO w pn n (r + 1) t) = brP w pn n br r (t + 1) := by
  funext j
  simp only [updN, brP]
  by_cases h : j = 256 * (n - 1 - r) + t
  · subst h
    rw [if_pos rfl, if_pos (by omega), Nat.add_sub_cancel_left]
  · rw [if_neg h]
    by_cases h2 : 256 * (n - 1 - r) ≤ j ∧ j < 256 * (n - 1 - r) + t
    · rw [if_pos h2, if_pos (by omega)]
    · rw [if_neg h2, if_neg (by omega)]
theorem brP_e (w : Nat → Nat → Option Nat) (pn n : Nat) (br : Nat → Nat) (r : Nat) (hr : r < n) : brP w pn n br r 256 = brF w pn n br (r + 1) := by
  funext j
  simp only [brP, brF]
  by_cases h : 256 * (n - 1 - r) ≤ j ∧ j < 256 * (n - 1 - r) + 256
  · have e1 : n - j / 256 = r + 1 := by omega
    have e2 : j % 256 = j - 256 * (n - 1 - r) := by omega
    rw [if_pos h, if_pos (by omega), e1, e2]
  · rw [if_neg h]
    by_cases h2 : 256 * (n - r) ≤ j ∧ j < 256 * (n + 1)
    · rw [if_pos h2, if_pos (by omega)]
    · rw [if_neg h2, if_neg (by omega)]
/-- reading the row above while a row is being done -/
theorem brP_up (w : Nat → Nat → Option Nat) (pn n : Nat) (br : Nat → Nat) (r t z : Nat) (hr : r < n) (hz : z < 256) (ht : t ≤ 256) : brP w pn n br r t (256 * (n - 1 - r + 1) + z) = gO w pn n r z := by
  simp only [brP, brF]
  have e1 : n - (256 * (n - 1 - r + 1) + z) / 256 = r := by omega
  have e2 : (256 * (n - 1 - r + 1) + z) % 256 = z := by omega
  rw [if_neg (by omega), if_pos (by omega), e1, e2]
theorem brF_at (w : Nat → Nat → Option Nat) (pn n : Nat) (br : Nat → Nat) (i z : Nat) (hi : i ≤ n) (hz : z < 256) : brF w pn n br n (256 * i + z) = gO w pn n (n - i) z := by
  simp only [brF]
  have e1 : n - (256 * i + z) / 256 = n - i := by omega
  have e2 : (256 * i + z) % 256 = z := by omega
  rw [if_pos (by omega), e1, e2]
theorem or_lt' : ∀ z, z < 256 → ∀ q, q < 8 → z ||| 2 ^ q < 256 := by decide +kernel
theorem nx_or (a b : Nat) : nI a ||| nI b = nI (a ||| b) := by
  apply Int32.toBitVec_inj.1
  show BitVec.ofNat 32 a ||| BitVec.ofNat 32 b = BitVec.ofNat 32 (a ||| b)
  apply BitVec.eq_of_getLsbD_eq
  intro i hi
  simp [hi]
theorem m1_leN {b : Nat} (h : b < 2 ^ 63) : (-1 : Int64) ≤ lN b := by
  rw [Int64.le_iff_toInt_le, pk_lT h]
  have : (-1 : Int64).toInt = -1 := by decide
  omega
end
section
abbrev b_O_sortAsks : ByteArray := prog_9_method_19_code
def y_O_sortAsks : MethodName := ⟨"PartShelvesModel", "sortAsks", "()I"⟩
theorem d_O_sortAsks_0 : decode b_O_sortAsks 0 = .ok (.iconst 0, 1) := by decide +kernel
theorem d_O_sortAsks_1 : decode b_O_sortAsks 1 = .ok (.istore_n 1, 1) := by decide +kernel
theorem d_O_sortAsks_2 : decode b_O_sortAsks 2 = .ok (.iconst 0, 1) := by decide +kernel
theorem d_O_sortAsks_3 : decode b_O_sortAsks 3 = .ok (.istore_n 2, 1) := by decide +kernel
theorem d_O_sortAsks_4 : decode b_O_sortAsks 4 = .ok (.iload_n 2, 1) := by decide +kernel
theorem d_O_sortAsks_5 : decode b_O_sortAsks 5 = .ok (.aload_n 0, 1) := by decide +kernel
theorem d_O_sortAsks_6 : decode b_O_sortAsks 6 = .ok (.getfield 85, 3) := by decide +kernel
theorem d_O_sortAsks_9 : decode b_O_sortAsks 9 = .ok (.if_icmp .ge 76, 3) := by decide +kernel
theorem d_O_sortAsks_12 : decode b_O_sortAsks 12 = .ok (.aload_n 0, 1) := by decide +kernel
theorem d_O_sortAsks_13 : decode b_O_sortAsks 13 = .ok (.iload_n 2, 1) := by decide +kernel
theorem d_O_sortAsks_14 : decode b_O_sortAsks 14 = .ok (.invokevirtual 123, 3) := by decide +kernel
theorem d_O_sortAsks_17 : decode b_O_sortAsks 17 = .ok (.ifCond .eq 62, 3) := by decide +kernel
theorem d_O_sortAsks_20 : decode b_O_sortAsks 20 = .ok (.iload_n 1, 1) := by decide +kernel
theorem d_O_sortAsks_21 : decode b_O_sortAsks 21 = .ok (.istore_n 3, 1) := by decide +kernel
theorem d_O_sortAsks_22 : decode b_O_sortAsks 22 = .ok (.iload_n 3, 1) := by decide +kernel
theorem d_O_sortAsks_23 : decode b_O_sortAsks 23 = .ok (.ifCond .le 46, 3) := by decide +kernel
theorem d_O_sortAsks_26 : decode b_O_sortAsks 26 = .ok (.aload_n 0, 1) := by decide +kernel
theorem d_O_sortAsks_27 : decode b_O_sortAsks 27 = .ok (.getfield 45, 3) := by decide +kernel
theorem d_O_sortAsks_30 : decode b_O_sortAsks 30 = .ok (.aload_n 0, 1) := by decide +kernel
theorem d_O_sortAsks_31 : decode b_O_sortAsks 31 = .ok (.getfield 75, 3) := by decide +kernel
theorem d_O_sortAsks_34 : decode b_O_sortAsks 34 = .ok (.iload_n 3, 1) := by decide +kernel
theorem d_O_sortAsks_35 : decode b_O_sortAsks 35 = .ok (.iconst 1, 1) := by decide +kernel
theorem d_O_sortAsks_36 : decode b_O_sortAsks 36 = .ok (.isub, 1) := by decide +kernel
theorem d_O_sortAsks_37 : decode b_O_sortAsks 37 = .ok (.iaload, 1) := by decide +kernel
theorem d_O_sortAsks_38 : decode b_O_sortAsks 38 = .ok (.laload, 1) := by decide +kernel
theorem d_O_sortAsks_39 : decode b_O_sortAsks 39 = .ok (.aload_n 0, 1) := by decide +kernel
theorem d_O_sortAsks_40 : decode b_O_sortAsks 40 = .ok (.getfield 45, 3) := by decide +kernel
theorem d_O_sortAsks_43 : decode b_O_sortAsks 43 = .ok (.iload_n 2, 1) := by decide +kernel
theorem d_O_sortAsks_44 : decode b_O_sortAsks 44 = .ok (.laload, 1) := by decide +kernel
theorem d_O_sortAsks_45 : decode b_O_sortAsks 45 = .ok (.lcmp, 1) := by decide +kernel
theorem d_O_sortAsks_46 : decode b_O_sortAsks 46 = .ok (.ifCond .le 23, 3) := by decide +kernel
theorem d_O_sortAsks_49 : decode b_O_sortAsks 49 = .ok (.aload_n 0, 1) := by decide +kernel
theorem d_O_sortAsks_50 : decode b_O_sortAsks 50 = .ok (.getfield 75, 3) := by decide +kernel
theorem d_O_sortAsks_53 : decode b_O_sortAsks 53 = .ok (.iload_n 3, 1) := by decide +kernel
theorem d_O_sortAsks_54 : decode b_O_sortAsks 54 = .ok (.aload_n 0, 1) := by decide +kernel
theorem d_O_sortAsks_55 : decode b_O_sortAsks 55 = .ok (.getfield 75, 3) := by decide +kernel
theorem d_O_sortAsks_58 : decode b_O_sortAsks 58 = .ok (.iload_n 3, 1) := by decide +kernel
theorem d_O_sortAsks_59 : decode b_O_sortAsks 59 = .ok (.iconst 1, 1) := by decide +kernel
theorem d_O_sortAsks_60 : decode b_O_sortAsks 60 = .ok (.isub, 1) := by decide +kernel
theorem d_O_sortAsks_61 : decode b_O_sortAsks 61 = .ok (.iaload, 1) := by decide +kernel
theorem d_O_sortAsks_62 : decode b_O_sortAsks 62 = .ok (.iastore, 1) := by decide +kernel
theorem d_O_sortAsks_63 : decode b_O_sortAsks 63 = .ok (.iinc 3 (-1), 3) := by decide +kernel
theorem d_O_sortAsks_66 : decode b_O_sortAsks 66 = .ok (.goto (-44), 3) := by decide +kernel
theorem d_O_sortAsks_69 : decode b_O_sortAsks 69 = .ok (.aload_n 0, 1) := by decide +kernel
theorem d_O_sortAsks_70 : decode b_O_sortAsks 70 = .ok (.getfield 75, 3) := by decide +kernel
theorem d_O_sortAsks_73 : decode b_O_sortAsks 73 = .ok (.iload_n 3, 1) := by decide +kernel
theorem d_O_sortAsks_74 : decode b_O_sortAsks 74 = .ok (.iload_n 2, 1) := by decide +kernel
theorem d_O_sortAsks_75 : decode b_O_sortAsks 75 = .ok (.iastore, 1) := by decide +kernel
theorem d_O_sortAsks_76 : decode b_O_sortAsks 76 = .ok (.iinc 1 1, 3) := by decide +kernel
theorem d_O_sortAsks_79 : decode b_O_sortAsks 79 = .ok (.iinc 2 1, 3) := by decide +kernel
theorem d_O_sortAsks_82 : decode b_O_sortAsks 82 = .ok (.goto (-78), 3) := by decide +kernel
theorem d_O_sortAsks_85 : decode b_O_sortAsks 85 = .ok (.iload_n 1, 1) := by decide +kernel
theorem d_O_sortAsks_86 : decode b_O_sortAsks 86 = .ok (.ireturn, 1) := by decide +kernel
def w_O_sortAsks : List Cond := .code y_O_sortAsks b_O_sortAsks 4 (some .int) :: ([.fieldLink "PartShelvesModel" 85 "PartShelvesModel" "asks" "I", .methodLink "PartShelvesModel" 123 ⟨"PartShelvesModel", "isOpen", "(I)Z"⟩, .instanceMethod ⟨"PartShelvesModel", "isOpen", "(I)Z"⟩, .selects "PartShelvesModel" ⟨"PartShelvesModel", "isOpen", "(I)Z"⟩ ⟨"PartShelvesModel", "isOpen", "(I)Z"⟩, .initialized "PartShelvesModel", .code ⟨"PartShelvesModel", "isOpen", "(I)Z"⟩ prog_9_method_7_code 2 (some .boolean), .fieldLink "PartShelvesModel" 48 "PartShelvesModel" "served" "[Z", .fieldLink "PartShelvesModel" 45 "PartShelvesModel" "minutes" "[J", .fieldLink "PartShelvesModel" 75 "PartShelvesModel" "order" "[I"] ++ u_ws R_O F_O 36)
set_option maxRecDepth 20000 in
theorem g_O_sortAsks_isOpen : GoodIn w_O_sortAsks (wsV R_O 123 R_O y_O_isOpen w_O_isOpen) := goodIn_p _ [6] rfl (by decide +kernel)
set_option maxHeartbeats 4000000 in
set_option maxRecDepth 100000 in
theorem c_O_sort (l : Launch) (D : va_G) (kC : Nat → ClassId) (ad : Nat → Nat) (td : Nat) (rn : Nat) (pn : Nat) (an : Nat) (jn : Nat) (tn : Nat) (bm : Int32) (fw : Int64) (gp : Nat) (ga : Nat) (bp : Int32) (fc : Int64) (fj : Nat) (rA : Nat → Nat) (rC : Nat → Nat) (ft : Nat → Int32) (kd : Nat → Nat) (aG : Nat → Nat) (sR : Nat → Nat) (sT : Nat → Nat) (wh : Nat → Nat) (dY : Nat → Nat) (pd : Nat → Nat) (cN : Nat → Nat) (mN : Nat → Nat) (sv : Nat → Int32) (nd : Nat → Nat) (wr : Nat → Nat) (tl : Nat → Nat) (lt : Nat → Int32) (lT : Nat → Nat) (lD : Nat → Nat) (gv : Nat → Int32) (gn : Nat → Int64) (od : Nat → Nat) (br : Nat → Nat) (sz : Nat) (han : an ≤ 8) (hmN : ∀ j, mN j ≤ 1000000000) (hod : ∀ j, od j < 8) : Met l y_O_sortAsks w_O_sortAsks ({ frames := 1, cells := 0, slots := 0, locals := 24 } : Room) (gPre cls D (tyL kC) [.ref (ad 0)] (fl [(wO kC ad td rn pn an jn tn bm fw gp ga bp fc fj rA rC ft kd aG sR sT wh dY pd cN mN sv nd wr tl lt lT lD gv gn od br)]) sz) (gQi cls D (tyL kC) (fl [(wO kC ad td rn pn an jn tn bm fw gp ga bp fc fj rA rC ft kd aG sR sT wh dY pd cN mN sv nd wr tl lt lT lD gv gn od br)]) sz (nI (srN sv an)) (fl [(wO kC ad td rn pn an jn tn bm fw gp ga bp fc fj rA rC ft kd aG sR sT wh dY pd cN mN sv nd wr tl lt lT lD gv gn (srO sv mN od an) br)])) 0 0 (va_A (fl [(wO kC ad td rn pn an jn tn bm fw gp ga bp fc fj rA rC ft kd aG sR sT wh dY pd cN mN sv nd wr tl lt lT lD gv gn od br)]) sz) := by
  refine Met.ofW (cc := b_O_sortAsks) (maxL := 4) (ret := (some .int)) (by decide) rfl ?_
  intro p e s m args below meth c s₁ B hml hv
  obtain ⟨rfl, hsz, hP, hK, hD0⟩ := hv
  have hx := B.exec
  have hb := B.bytes
  have hr := B.returns
  have hts := atoms_spec (ws := w_O_sortAsks) B.pre
  have hown : s.vm.findClass R_O = some m.cls := findClass_of_methodNamed B.named
  have hlocks := B.notSynchronized
  subst hsz
  obtain ⟨A, hAe⟩ : ∃ A : Nat → Prop, A = va_A (fl [(wO kC ad td rn pn an jn tn bm fw gp ga bp fc fj rA rC ft kd aG sR sT wh dY pd cN mN sv nd wr tl lt lT lD gv gn od br)]) s.heap.size := ⟨_, rfl⟩
  have hD : va_D A (fl [(wO kC ad td rn pn an jn tn bm fw gp ga bp fc fj rA rC ft kd aG sR sT wh dY pd cN mN sv nd wr tl lt lT lD gv gn od br)]) := by rw [hAe]; exact hD0.self
  have hA : ∀ q : Nat, s.heap.size ≤ q → A q := fun q h => by rw [hAe]; exact Or.inr h
  have hS : va_S A s.heap s.heap [] := va_S.rf
  have hl := lv_entry ([.ref (ad 0)]) (n := 4) (Nat.le_of_ble_eq_true rfl)
  rw [lg_entry_eq]
  generalize (lg_sl ([.ref (ad 0)]) ++ List.replicate (4 - (lg_sl ([.ref (ad 0)])).length) Slot.unset).toArray = ls at hl ⊢
  have hl : lv_has ls 4 [(0, .ref (ad 0))] := hl
  refine lv_iconst (v := nI 0) hx hb d_O_sortAsks_0 (by decide) ?_
  refine lv_istore_n (lv' := [(1, .int (nI 0)), (0, .ref (ad 0))]) hx hb d_O_sortAsks_1 rfl hl (by decide) rfl (fun ls hl => ?_)
  refine lv_iconst (v := nI 0) hx hb d_O_sortAsks_2 (by decide) ?_
  refine lv_istore_n (lv' := [(2, .int (nI 0)), (1, .int (nI 0)), (0, .ref (ad 0))]) hx hb d_O_sortAsks_3 rfl hl (by decide) rfl (fun ls hl => ?_)
  have L4 : ∀ (n4 : Nat) (k : Nat), an - k < n4 → k ≤ an → ∀ (H : Heap) (locs : List Loc), va_P D cls (fl [(wO kC ad td rn pn an jn tn bm fw gp ga bp fc fj rA rC ft kd aG sR sT wh dY pd cN mN sv nd wr tl lt lT lD gv gn (srO sv mN od k) br)]) H → va_D A (fl [(wO kC ad td rn pn an jn tn bm fw gp ga bp fc fj rA rC ft kd aG sR sT wh dY pd cN mN sv nd wr tl lt lT lD gv gn (srO sv mN od k) br)]) → va_S A s.heap H locs → ∀ (ls : Array Slot), lv_has ls 4 [(0, .ref (ad 0)), (1, .int (nI (srN sv k))), (2, .int (nI k))] → W p l e (headSpec w_O_sortAsks ({ frames := 1, cells := 0, slots := 0, locals := 24 } : Room)).room s m ([.ref (ad 0)] : List Value).toArray below meth c H locs 0 0 (MQ below (gQi cls D (tyL kC) (fl [(wO kC ad td rn pn an jn tn bm fw gp ga bp fc fj rA rC ft kd aG sR sT wh dY pd cN mN sv nd wr tl lt lT lD gv gn od br)]) s.heap.size (nI (srN sv an)) (fl [(wO kC ad td rn pn an jn tn bm fw gp ga bp fc fj rA rC ft kd aG sR sT wh dY pd cN mN sv nd wr tl lt lT lD gv gn (srO sv mN od an) br)])) ([.ref (ad 0)] : List Value).toArray s 0 0 (va_A (fl [(wO kC ad td rn pn an jn tn bm fw gp ga bp fc fj rA rC ft kd aG sR sT wh dY pd cN mN sv nd wr tl lt lT lD gv gn od br)]) s.heap.size)) (F0 m 4 ls []) := by
    intro n4
    induction n4 with
    | zero =>
      intro k hm
      exact absurd hm (Nat.not_lt_zero _)
    | succ n4 ih4 =>
      intro k hm hka H locs hP hD hS ls hl
      refine lv_iload_n hx hb d_O_sortAsks_4 rfl (lv_at hl 2 rfl) ?_
      refine lv_aload_n hx hb d_O_sortAsks_5 rfl (lv_at hl 0 rfl) ?_
      refine fv_get (ci := 7) (v := .int (nI an)) (C := R_O) (T := F_O) (N := 36) hx hb hts (by decide +kernel) hown hK hP 0 0 rfl rfl rfl 12 (by decide) (hts (.fieldLink R_O 85 "PartShelvesModel" "asks" "I") (by decide +kernel)) (fun _ h9 => h9) rfl d_O_sortAsks_6 ?_
      refine nv_icmp_ge (tgt := 85) hx hb d_O_sortAsks_9 (by decide) (by omega) (by omega) (fun hk => ?_) (fun hk => ?_)
      · obtain rfl : an = k := by omega
        refine lv_iload_n hx hb d_O_sortAsks_85 rfl (lv_at hl 1 rfl) ?_
        exact W.iret (v := nI (srN sv an)) hx hb hr (fun t ht hW => by subst hAe; exact ⟨⟨(nI (srN sv an)), (), rfl, rfl, by rw [ht]; exact hP, va_K.moved hW.alike hK, hD⟩, hS.F ht⟩) (by subst hAe; exact hS.2.2) d_O_sortAsks_86
      · have hn := srN_le sv k
        have hO := srO_lt (sv := sv) (mN := mN) hod k (by omega)
        refine lv_aload_n hx hb d_O_sortAsks_12 rfl (lv_at hl 0 rfl) ?_
        refine lv_iload_n hx hb d_O_sortAsks_13 rfl (lv_at hl 2 rfl) ?_
        refine r_calli (W.runV (As := [.int (nI k)]) (rest := []) ⟨hx, hb, hml, hown, hts⟩ (c_O_isOpen l D kC ad td rn pn an jn tn bm fw gp ga bp fc fj rA rC ft kd aG sR sT wh dY pd cN mN sv nd wr tl lt lT lD gv gn (srO sv mN od k) br (nI k) (han)) (cwV 1 hts g_O_sortAsks_isOpen rfl rfl rfl (by decide +kernel) ⟨Nat.le_of_ble_eq_true rfl, Nat.le_of_ble_eq_true rfl⟩) (r_preV (f_recv (ci := 7) (q0 := 0) hK hP 0 rfl rfl rfl) hK hP) rfl rfl hl.1 rfl (lv_room (Nat.le_of_ble_eq_true rfl)) d_O_sortAsks_14 ⟨Nat.le_of_ble_eq_true rfl, Nat.le_of_ble_eq_true rfl⟩) ?_
        refine lv_if_eq (tgt := 79) hx hb d_O_sortAsks_17 (by decide) (fun h0 => ?_) (fun h0 => ?_)
        · have hs : ¬ sv k = 0 := fun q => bI_0.mp h0 ((opn_nI (by omega)).mpr ⟨hk, q⟩)
          have ew1 : (srO sv mN od k) = (srO sv mN od (k + 1)) := (if_neg hs).symm
          have hP : va_P D cls (fl [(wO kC ad td rn pn an jn tn bm fw gp ga bp fc fj rA rC ft kd aG sR sT wh dY pd cN mN sv nd wr tl lt lT lD gv gn (srO sv mN od (k + 1)) br)]) H := by rw [← ew1]; exact hP
          have hD : va_D A (fl [(wO kC ad td rn pn an jn tn bm fw gp ga bp fc fj rA rC ft kd aG sR sT wh dY pd cN mN sv nd wr tl lt lT lD gv gn (srO sv mN od (k + 1)) br)]) := by rw [← ew1]; exact hD
          have el2 : nI (srN sv k) = nI (srN sv (k + 1)) := congrArg nI (if_neg hs).symm
          have hl : lv_has ls 4 [(0, .ref (ad 0)), (1, .int (nI (srN sv (k + 1)))), (2, .int (nI k))] := by rw [← el2]; exact hl
          refine lv_iinc (v := nI (k + 1)) (lv' := [(2, .int (nI (k + 1))), (0, .ref (ad 0)), (1, .int (nI (srN sv (k + 1))))]) hx hb d_O_sortAsks_79 hl (k := 2) rfl (nI_1 k) (by decide) rfl (fun ls hl => ?_)
          refine lv_goto (tgt := 4) hx hb d_O_sortAsks_82 (by decide) ?_
          exact ih4 (k + 1) (by omega) (hk) _ _ hP hD hS ls (lv_sub hl [1, 2, 0] rfl)
        · have hs : sv k = 0 := ((opn_nI (by omega)).mp (bI_n0.mp h0)).2
          refine lv_iload_n hx hb d_O_sortAsks_20 rfl (lv_at hl 1 rfl) ?_
          refine lv_istore_n (lv' := [(3, .int (nI (srN sv k))), (0, .ref (ad 0)), (1, .int (nI (srN sv k))), (2, .int (nI k))]) hx hb d_O_sortAsks_21 rfl hl (by decide) rfl (fun ls hl => ?_)
          have L22 : ∀ (n22 : Nat) (b : Nat), b < n22 → b ≤ (srN sv k) → insP mN (srO sv mN od k) k b = insP mN (srO sv mN od k) k (srN sv k) → ∀ (H : Heap) (locs : List Loc), va_P D cls (fl [(wO kC ad td rn pn an jn tn bm fw gp ga bp fc fj rA rC ft kd aG sR sT wh dY pd cN mN sv nd wr tl lt lT lD gv gn (insS (srO sv mN od k) (srN sv k) b) br)]) H → va_D A (fl [(wO kC ad td rn pn an jn tn bm fw gp ga bp fc fj rA rC ft kd aG sR sT wh dY pd cN mN sv nd wr tl lt lT lD gv gn (insS (srO sv mN od k) (srN sv k) b) br)]) → va_S A s.heap H locs → ∀ (ls : Array Slot), lv_has ls 4 [(0, .ref (ad 0)), (1, .int (nI (srN sv k))), (2, .int (nI k)), (3, .int (nI b))] → W p l e (headSpec w_O_sortAsks ({ frames := 1, cells := 0, slots := 0, locals := 24 } : Room)).room s m ([.ref (ad 0)] : List Value).toArray below meth c H locs 0 0 (MQ below (gQi cls D (tyL kC) (fl [(wO kC ad td rn pn an jn tn bm fw gp ga bp fc fj rA rC ft kd aG sR sT wh dY pd cN mN sv nd wr tl lt lT lD gv gn od br)]) s.heap.size (nI (srN sv an)) (fl [(wO kC ad td rn pn an jn tn bm fw gp ga bp fc fj rA rC ft kd aG sR sT wh dY pd cN mN sv nd wr tl lt lT lD gv gn (srO sv mN od an) br)])) ([.ref (ad 0)] : List Value).toArray s 0 0 (va_A (fl [(wO kC ad td rn pn an jn tn bm fw gp ga bp fc fj rA rC ft kd aG sR sT wh dY pd cN mN sv nd wr tl lt lT lD gv gn od br)]) s.heap.size)) (F0 m 22 ls []) := by
            intro n22
            induction n22 with
            | zero =>
              intro b hm
              exact absurd hm (Nat.not_lt_zero _)
            | succ n22 ih22 =>
              intro b hm hbn hI H locs hP hD hS ls hl
              refine lv_iload_n hx hb d_O_sortAsks_22 rfl (lv_at hl 3 rfl) ?_
              refine nv_if_le (tgt := 69) hx hb d_O_sortAsks_23 (by decide) (by omega) (fun hb0 => ?_) (fun hb0 => ?_)
              · have hpb : insP mN (srO sv mN od k) k (srN sv k) = b := by rw [← hI, hb0]; rfl
                refine lv_aload_n hx hb d_O_sortAsks_69 rfl (lv_at hl 0 rfl) ?_
                refine fv_get (ci := 7) (v := .ref (ad 22)) (C := R_O) (T := F_O) (N := 36) hx hb hts (by decide +kernel) hown hK hP 0 0 rfl rfl rfl 34 (by decide) (hts (.fieldLink R_O 75 "PartShelvesModel" "order" "[I") (by decide +kernel)) (fun _ h9 => h9) rfl d_O_sortAsks_70 ?_
                refine lv_iload_n hx hb d_O_sortAsks_73 rfl (lv_at hl 3 rfl) ?_
                refine lv_iload_n hx hb d_O_sortAsks_74 rfl (lv_at hl 2 rfl) ?_
                refine fa_iastN hx hb hK hP hD hS 0 22 0 rfl rfl rfl (by omega) (by decide) d_O_sortAsks_75 (fun H locs hP hD hS => ?_)
                have hP : va_P D cls (fl [(wO kC ad td rn pn an jn tn bm fw gp ga bp fc fj rA rC ft kd aG sR sT wh dY pd cN mN sv nd wr tl lt lT lD gv gn (updN (insS (srO sv mN od k) (srN sv k) b) b k) br)]) H := hP
                have hD : va_D A (fl [(wO kC ad td rn pn an jn tn bm fw gp ga bp fc fj rA rC ft kd aG sR sT wh dY pd cN mN sv nd wr tl lt lT lD gv gn (updN (insS (srO sv mN od k) (srN sv k) b) b k) br)]) := hD
                refine lv_iinc (v := nI ((srN sv k) + 1)) (lv' := [(1, .int (nI ((srN sv k) + 1))), (0, .ref (ad 0)), (2, .int (nI k)), (3, .int (nI b))]) hx hb d_O_sortAsks_76 hl (k := 1) rfl (nI_1 (srN sv k)) (by decide) rfl (fun ls hl => ?_)
                have ew3 : (updN (insS (srO sv mN od k) (srN sv k) b) b k) = (srO sv mN od (k + 1)) := by rw [show srO sv mN od (k + 1) = _ from if_pos hs]; simp only [insO]; rw [hpb]
                have hP : va_P D cls (fl [(wO kC ad td rn pn an jn tn bm fw gp ga bp fc fj rA rC ft kd aG sR sT wh dY pd cN mN sv nd wr tl lt lT lD gv gn (srO sv mN od (k + 1)) br)]) H := by rw [← ew3]; exact hP
                have hD : va_D A (fl [(wO kC ad td rn pn an jn tn bm fw gp ga bp fc fj rA rC ft kd aG sR sT wh dY pd cN mN sv nd wr tl lt lT lD gv gn (srO sv mN od (k + 1)) br)]) := by rw [← ew3]; exact hD
                have el4 : nI ((srN sv k) + 1) = nI (srN sv (k + 1)) := congrArg nI (if_pos hs).symm
                have hl : lv_has ls 4 [(1, .int (nI (srN sv (k + 1)))), (0, .ref (ad 0)), (2, .int (nI k)), (3, .int (nI b))] := by rw [← el4]; exact hl
                refine lv_iinc (v := nI (k + 1)) (lv' := [(2, .int (nI (k + 1))), (1, .int (nI (srN sv (k + 1)))), (0, .ref (ad 0)), (3, .int (nI b))]) hx hb d_O_sortAsks_79 hl (k := 2) rfl (nI_1 k) (by decide) rfl (fun ls hl => ?_)
                refine lv_goto (tgt := 4) hx hb d_O_sortAsks_82 (by decide) ?_
                exact ih4 (k + 1) (by omega) (hk) _ _ hP hD hS ls (lv_sub hl [2, 1, 0] rfl)
              · refine lv_aload_n hx hb d_O_sortAsks_26 rfl (lv_at hl 0 rfl) ?_
                refine fv_get (ci := 7) (v := .ref (ad 12)) (C := R_O) (T := F_O) (N := 36) hx hb hts (by decide +kernel) hown hK hP 0 0 rfl rfl rfl 15 (by decide) (hts (.fieldLink R_O 45 "PartShelvesModel" "minutes" "[J") (by decide +kernel)) (fun _ h9 => h9) rfl d_O_sortAsks_27 ?_
                refine lv_aload_n hx hb d_O_sortAsks_30 rfl (lv_at hl 0 rfl) ?_
                refine fv_get (ci := 7) (v := .ref (ad 22)) (C := R_O) (T := F_O) (N := 36) hx hb hts (by decide +kernel) hown hK hP 0 0 rfl rfl rfl 34 (by decide) (hts (.fieldLink R_O 75 "PartShelvesModel" "order" "[I") (by decide +kernel)) (fun _ h9 => h9) rfl d_O_sortAsks_31 ?_
                refine lv_iload_n hx hb d_O_sortAsks_34 rfl (lv_at hl 3 rfl) ?_
                refine lv_iconst (v := nI 1) hx hb d_O_sortAsks_35 (by decide) ?_
                refine nv_isub hx hb d_O_sortAsks_36 (by omega) ?_
                refine fa_ialdN hx hb hK hP 0 22 0 rfl rfl rfl (by omega) (by decide) d_O_sortAsks_37 ?_
                refine nv_topi (y := nI ((srO sv mN od k) (b - 1))) (congrArg nI (insS_lt _ _ _ _ (by omega))) ?_
                refine fa_laldN hx hb hK hP 0 12 1 rfl rfl rfl (hO _) (by decide) d_O_sortAsks_38 ?_
                refine lv_aload_n hx hb d_O_sortAsks_39 rfl (lv_at hl 0 rfl) ?_
                refine fv_get (ci := 7) (v := .ref (ad 12)) (C := R_O) (T := F_O) (N := 36) hx hb hts (by decide +kernel) hown hK hP 0 0 rfl rfl rfl 15 (by decide) (hts (.fieldLink R_O 45 "PartShelvesModel" "minutes" "[J") (by decide +kernel)) (fun _ h9 => h9) rfl d_O_sortAsks_40 ?_
                refine lv_iload_n hx hb d_O_sortAsks_43 rfl (lv_at hl 2 rfl) ?_
                refine fa_laldN hx hb hK hP 0 12 1 rfl rfl rfl (by omega) (by decide) d_O_sortAsks_44 ?_
                refine lc_le (tgt := 69) hx hb d_O_sortAsks_45 d_O_sortAsks_46 (by decide) (fun hc => ?_) (fun hc => ?_)
                · have hpb : insP mN (srO sv mN od k) k (srN sv k) = b := by
                    obtain ⟨b2, rfl⟩ : ∃ b2, b = b2 + 1 := ⟨b - 1, by omega⟩
                    rw [← hI]; exact if_neg (Nat.not_lt.mpr ((lN_le (by have := hmN ((srO sv mN od k) (b2 + 1 - 1)); omega) (by have := hmN k; omega)).mp hc))
                  refine lv_aload_n hx hb d_O_sortAsks_69 rfl (lv_at hl 0 rfl) ?_
                  refine fv_get (ci := 7) (v := .ref (ad 22)) (C := R_O) (T := F_O) (N := 36) hx hb hts (by decide +kernel) hown hK hP 0 0 rfl rfl rfl 34 (by decide) (hts (.fieldLink R_O 75 "PartShelvesModel" "order" "[I") (by decide +kernel)) (fun _ h9 => h9) rfl d_O_sortAsks_70 ?_
                  refine lv_iload_n hx hb d_O_sortAsks_73 rfl (lv_at hl 3 rfl) ?_
                  refine lv_iload_n hx hb d_O_sortAsks_74 rfl (lv_at hl 2 rfl) ?_
                  refine fa_iastN hx hb hK hP hD hS 0 22 0 rfl rfl rfl (by omega) (by decide) d_O_sortAsks_75 (fun H locs hP hD hS => ?_)
                  have hP : va_P D cls (fl [(wO kC ad td rn pn an jn tn bm fw gp ga bp fc fj rA rC ft kd aG sR sT wh dY pd cN mN sv nd wr tl lt lT lD gv gn (updN (insS (srO sv mN od k) (srN sv k) b) b k) br)]) H := hP
                  have hD : va_D A (fl [(wO kC ad td rn pn an jn tn bm fw gp ga bp fc fj rA rC ft kd aG sR sT wh dY pd cN mN sv nd wr tl lt lT lD gv gn (updN (insS (srO sv mN od k) (srN sv k) b) b k) br)]) := hD
                  refine lv_iinc (v := nI ((srN sv k) + 1)) (lv' := [(1, .int (nI ((srN sv k) + 1))), (0, .ref (ad 0)), (2, .int (nI k)), (3, .int (nI b))]) hx hb d_O_sortAsks_76 hl (k := 1) rfl (nI_1 (srN sv k)) (by decide) rfl (fun ls hl => ?_)
                  have ew5 : (updN (insS (srO sv mN od k) (srN sv k) b) b k) = (srO sv mN od (k + 1)) := by rw [show srO sv mN od (k + 1) = _ from if_pos hs]; simp only [insO]; rw [hpb]
                  have hP : va_P D cls (fl [(wO kC ad td rn pn an jn tn bm fw gp ga bp fc fj rA rC ft kd aG sR sT wh dY pd cN mN sv nd wr tl lt lT lD gv gn (srO sv mN od (k + 1)) br)]) H := by rw [← ew5]; exact hP
                  have hD : va_D A (fl [(wO kC ad td rn pn an jn tn bm fw gp ga bp fc fj rA rC ft kd aG sR sT wh dY pd cN mN sv nd wr tl lt lT lD gv gn (srO sv mN od (k + 1)) br)]) := by rw [← ew5]; exact hD
                  have el6 : nI ((srN sv k) + 1) = nI (srN sv (k + 1)) := congrArg nI (if_pos hs).symm
                  have hl : lv_has ls 4 [(1, .int (nI (srN sv (k + 1)))), (0, .ref (ad 0)), (2, .int (nI k)), (3, .int (nI b))] := by rw [← el6]; exact hl
                  refine lv_iinc (v := nI (k + 1)) (lv' := [(2, .int (nI (k + 1))), (1, .int (nI (srN sv (k + 1)))), (0, .ref (ad 0)), (3, .int (nI b))]) hx hb d_O_sortAsks_79 hl (k := 2) rfl (nI_1 k) (by decide) rfl (fun ls hl => ?_)
                  refine lv_goto (tgt := 4) hx hb d_O_sortAsks_82 (by decide) ?_
                  exact ih4 (k + 1) (by omega) (hk) _ _ hP hD hS ls (lv_sub hl [2, 1, 0] rfl)
                · refine lv_aload_n hx hb d_O_sortAsks_49 rfl (lv_at hl 0 rfl) ?_
                  refine fv_get (ci := 7) (v := .ref (ad 22)) (C := R_O) (T := F_O) (N := 36) hx hb hts (by decide +kernel) hown hK hP 0 0 rfl rfl rfl 34 (by decide) (hts (.fieldLink R_O 75 "PartShelvesModel" "order" "[I") (by decide +kernel)) (fun _ h9 => h9) rfl d_O_sortAsks_50 ?_
                  refine lv_iload_n hx hb d_O_sortAsks_53 rfl (lv_at hl 3 rfl) ?_
                  refine lv_aload_n hx hb d_O_sortAsks_54 rfl (lv_at hl 0 rfl) ?_
                  refine fv_get (ci := 7) (v := .ref (ad 22)) (C := R_O) (T := F_O) (N := 36) hx hb hts (by decide +kernel) hown hK hP 0 0 rfl rfl rfl 34 (by decide) (hts (.fieldLink R_O 75 "PartShelvesModel" "order" "[I") (by decide +kernel)) (fun _ h9 => h9) rfl d_O_sortAsks_55 ?_
                  refine lv_iload_n hx hb d_O_sortAsks_58 rfl (lv_at hl 3 rfl) ?_
                  refine lv_iconst (v := nI 1) hx hb d_O_sortAsks_59 (by decide) ?_
                  refine nv_isub hx hb d_O_sortAsks_60 (by omega) ?_
                  refine fa_ialdN hx hb hK hP 0 22 0 rfl rfl rfl (by omega) (by decide) d_O_sortAsks_61 ?_
                  refine nv_topi (y := nI ((srO sv mN od k) (b - 1))) (congrArg nI (insS_lt _ _ _ _ (by omega))) ?_
                  refine fa_iastN hx hb hK hP hD hS 0 22 0 rfl rfl rfl (by omega) (by decide) d_O_sortAsks_62 (fun H locs hP hD hS => ?_)
                  have hP : va_P D cls (fl [(wO kC ad td rn pn an jn tn bm fw gp ga bp fc fj rA rC ft kd aG sR sT wh dY pd cN mN sv nd wr tl lt lT lD gv gn (updN (insS (srO sv mN od k) (srN sv k) b) b ((srO sv mN od k) (b - 1))) br)]) H := hP
                  have hD : va_D A (fl [(wO kC ad td rn pn an jn tn bm fw gp ga bp fc fj rA rC ft kd aG sR sT wh dY pd cN mN sv nd wr tl lt lT lD gv gn (updN (insS (srO sv mN od k) (srN sv k) b) b ((srO sv mN od k) (b - 1))) br)]) := hD
                  refine lv_iinc (v := nI (b - 1)) (lv' := [(3, .int (nI (b - 1))), (0, .ref (ad 0)), (1, .int (nI (srN sv k))), (2, .int (nI k))]) hx hb d_O_sortAsks_63 hl (k := 3) rfl (m1_i hb0) (by decide) rfl (fun ls hl => ?_)
                  refine lv_goto (tgt := 22) hx hb d_O_sortAsks_66 (by decide) ?_
                  have ew7 : (updN (insS (srO sv mN od k) (srN sv k) b) b ((srO sv mN od k) (b - 1))) = (insS (srO sv mN od k) (srN sv k) (b - 1)) := insS_s _ _ _ hb0 hbn
                  have hP : va_P D cls (fl [(wO kC ad td rn pn an jn tn bm fw gp ga bp fc fj rA rC ft kd aG sR sT wh dY pd cN mN sv nd wr tl lt lT lD gv gn (insS (srO sv mN od k) (srN sv k) (b - 1)) br)]) H := by rw [← ew7]; exact hP
                  have hD : va_D A (fl [(wO kC ad td rn pn an jn tn bm fw gp ga bp fc fj rA rC ft kd aG sR sT wh dY pd cN mN sv nd wr tl lt lT lD gv gn (insS (srO sv mN od k) (srN sv k) (b - 1)) br)]) := by rw [← ew7]; exact hD
                  exact ih22 (b - 1) (by omega) (by omega) (by rw [← hI]; obtain ⟨b2, rfl⟩ : ∃ b2, b = b2 + 1 := ⟨b - 1, by omega⟩; exact (if_pos (Nat.lt_of_not_le (fun q => hc ((lN_le (by have := hmN ((srO sv mN od k) (b2 + 1 - 1)); omega) (by have := hmN k; omega)).mpr q)))).symm) _ _ hP hD hS ls (lv_sub hl [1, 2, 3, 0] rfl)
          have ew8 : (srO sv mN od k) = (insS (srO sv mN od k) (srN sv k) (srN sv k)) := (insS_n _ _).symm
          have hP : va_P D cls (fl [(wO kC ad td rn pn an jn tn bm fw gp ga bp fc fj rA rC ft kd aG sR sT wh dY pd cN mN sv nd wr tl lt lT lD gv gn (insS (srO sv mN od k) (srN sv k) (srN sv k)) br)]) H := by rw [← ew8]; exact hP
          have hD : va_D A (fl [(wO kC ad td rn pn an jn tn bm fw gp ga bp fc fj rA rC ft kd aG sR sT wh dY pd cN mN sv nd wr tl lt lT lD gv gn (insS (srO sv mN od k) (srN sv k) (srN sv k)) br)]) := by rw [← ew8]; exact hD
          exact L22 _ (srN sv k) (Nat.lt_succ_self _) (Nat.le_refl _) (rfl) _ _ hP hD hS ls (lv_sub hl [1, 2, 3, 0] rfl)
  exact L4 _ 0 (Nat.lt_succ_self _) (Nat.zero_le _) _ _ hP hD hS ls (lv_sub hl [2, 1, 0] rfl)

abbrev b_O_greatest : ByteArray := prog_9_method_20_code
def y_O_greatest : MethodName := ⟨"PartShelvesModel", "greatest", "(III)J"⟩
theorem d_O_greatest_0 : decode b_O_greatest 0 = .ok (.iconst 0, 1) := by decide +kernel
theorem d_O_greatest_1 : decode b_O_greatest 1 = .ok (.istore 4, 2) := by decide +kernel
theorem d_O_greatest_3 : decode b_O_greatest 3 = .ok (.iload 4, 2) := by decide +kernel
theorem d_O_greatest_5 : decode b_O_greatest 5 = .ok (.sipush 256, 3) := by decide +kernel
theorem d_O_greatest_8 : decode b_O_greatest 8 = .ok (.if_icmp .ge 23, 3) := by decide +kernel
theorem d_O_greatest_11 : decode b_O_greatest 11 = .ok (.aload_n 0, 1) := by decide +kernel
theorem d_O_greatest_12 : decode b_O_greatest 12 = .ok (.getfield 78, 3) := by decide +kernel
theorem d_O_greatest_15 : decode b_O_greatest 15 = .ok (.sipush 256, 3) := by decide +kernel
theorem d_O_greatest_18 : decode b_O_greatest 18 = .ok (.iload_n 1, 1) := by decide +kernel
theorem d_O_greatest_19 : decode b_O_greatest 19 = .ok (.imul, 1) := by decide +kernel
theorem d_O_greatest_20 : decode b_O_greatest 20 = .ok (.iload 4, 2) := by decide +kernel
theorem d_O_greatest_22 : decode b_O_greatest 22 = .ok (.iadd, 1) := by decide +kernel
theorem d_O_greatest_23 : decode b_O_greatest 23 = .ok (.lconst 0, 1) := by decide +kernel
theorem d_O_greatest_24 : decode b_O_greatest 24 = .ok (.lastore, 1) := by decide +kernel
theorem d_O_greatest_25 : decode b_O_greatest 25 = .ok (.iinc 4 1, 3) := by decide +kernel
theorem d_O_greatest_28 : decode b_O_greatest 28 = .ok (.goto (-25), 3) := by decide +kernel
theorem d_O_greatest_31 : decode b_O_greatest 31 = .ok (.iload_n 1, 1) := by decide +kernel
theorem d_O_greatest_32 : decode b_O_greatest 32 = .ok (.iconst 1, 1) := by decide +kernel
theorem d_O_greatest_33 : decode b_O_greatest 33 = .ok (.isub, 1) := by decide +kernel
theorem d_O_greatest_34 : decode b_O_greatest 34 = .ok (.istore 4, 2) := by decide +kernel
theorem d_O_greatest_36 : decode b_O_greatest 36 = .ok (.iload 4, 2) := by decide +kernel
theorem d_O_greatest_38 : decode b_O_greatest 38 = .ok (.ifCond .lt 199, 3) := by decide +kernel
theorem d_O_greatest_41 : decode b_O_greatest 41 = .ok (.iconst 0, 1) := by decide +kernel
theorem d_O_greatest_42 : decode b_O_greatest 42 = .ok (.istore 5, 2) := by decide +kernel
theorem d_O_greatest_44 : decode b_O_greatest 44 = .ok (.iload 5, 2) := by decide +kernel
theorem d_O_greatest_46 : decode b_O_greatest 46 = .ok (.sipush 256, 3) := by decide +kernel
theorem d_O_greatest_49 : decode b_O_greatest 49 = .ok (.if_icmp .ge 182, 3) := by decide +kernel
theorem d_O_greatest_52 : decode b_O_greatest 52 = .ok (.aload_n 0, 1) := by decide +kernel
theorem d_O_greatest_53 : decode b_O_greatest 53 = .ok (.getfield 78, 3) := by decide +kernel
theorem d_O_greatest_56 : decode b_O_greatest 56 = .ok (.sipush 256, 3) := by decide +kernel
theorem d_O_greatest_59 : decode b_O_greatest 59 = .ok (.iload 4, 2) := by decide +kernel
theorem d_O_greatest_61 : decode b_O_greatest 61 = .ok (.iconst 1, 1) := by decide +kernel
theorem d_O_greatest_62 : decode b_O_greatest 62 = .ok (.iadd, 1) := by decide +kernel
theorem d_O_greatest_63 : decode b_O_greatest 63 = .ok (.imul, 1) := by decide +kernel
theorem d_O_greatest_64 : decode b_O_greatest 64 = .ok (.iload 5, 2) := by decide +kernel
theorem d_O_greatest_66 : decode b_O_greatest 66 = .ok (.iadd, 1) := by decide +kernel
theorem d_O_greatest_67 : decode b_O_greatest 67 = .ok (.laload, 1) := by decide +kernel
theorem d_O_greatest_68 : decode b_O_greatest 68 = .ok (.lstore 6, 2) := by decide +kernel
theorem d_O_greatest_70 : decode b_O_greatest 70 = .ok (.iconst 0, 1) := by decide +kernel
theorem d_O_greatest_71 : decode b_O_greatest 71 = .ok (.istore 8, 2) := by decide +kernel
theorem d_O_greatest_73 : decode b_O_greatest 73 = .ok (.iload 8, 2) := by decide +kernel
theorem d_O_greatest_75 : decode b_O_greatest 75 = .ok (.aload_n 0, 1) := by decide +kernel
theorem d_O_greatest_76 : decode b_O_greatest 76 = .ok (.getfield 81, 3) := by decide +kernel
theorem d_O_greatest_79 : decode b_O_greatest 79 = .ok (.if_icmp .ge 130, 3) := by decide +kernel
theorem d_O_greatest_82 : decode b_O_greatest 82 = .ok (.aload_n 0, 1) := by decide +kernel
theorem d_O_greatest_83 : decode b_O_greatest 83 = .ok (.getfield 75, 3) := by decide +kernel
theorem d_O_greatest_86 : decode b_O_greatest 86 = .ok (.iload 4, 2) := by decide +kernel
theorem d_O_greatest_88 : decode b_O_greatest 88 = .ok (.iaload, 1) := by decide +kernel
theorem d_O_greatest_89 : decode b_O_greatest 89 = .ok (.iload_n 3, 1) := by decide +kernel
theorem d_O_greatest_90 : decode b_O_greatest 90 = .ok (.if_icmp .eq 119, 3) := by decide +kernel
theorem d_O_greatest_93 : decode b_O_greatest 93 = .ok (.iload 5, 2) := by decide +kernel
theorem d_O_greatest_95 : decode b_O_greatest 95 = .ok (.iload 8, 2) := by decide +kernel
theorem d_O_greatest_97 : decode b_O_greatest 97 = .ok (.ishr, 1) := by decide +kernel
theorem d_O_greatest_98 : decode b_O_greatest 98 = .ok (.iconst 1, 1) := by decide +kernel
theorem d_O_greatest_99 : decode b_O_greatest 99 = .ok (.iand, 1) := by decide +kernel
theorem d_O_greatest_100 : decode b_O_greatest 100 = .ok (.ifCond .ne 29, 3) := by decide +kernel
theorem d_O_greatest_103 : decode b_O_greatest 103 = .ok (.iload 8, 2) := by decide +kernel
theorem d_O_greatest_105 : decode b_O_greatest 105 = .ok (.iload_n 2, 1) := by decide +kernel
theorem d_O_greatest_106 : decode b_O_greatest 106 = .ok (.if_icmp .eq 23, 3) := by decide +kernel
theorem d_O_greatest_109 : decode b_O_greatest 109 = .ok (.aload_n 0, 1) := by decide +kernel
theorem d_O_greatest_110 : decode b_O_greatest 110 = .ok (.iload 8, 2) := by decide +kernel
theorem d_O_greatest_112 : decode b_O_greatest 112 = .ok (.aload_n 0, 1) := by decide +kernel
theorem d_O_greatest_113 : decode b_O_greatest 113 = .ok (.getfield 75, 3) := by decide +kernel
theorem d_O_greatest_116 : decode b_O_greatest 116 = .ok (.iload 4, 2) := by decide +kernel
theorem d_O_greatest_118 : decode b_O_greatest 118 = .ok (.iaload, 1) := by decide +kernel
theorem d_O_greatest_119 : decode b_O_greatest 119 = .ok (.invokevirtual 126, 3) := by decide +kernel
theorem d_O_greatest_122 : decode b_O_greatest 122 = .ok (.ifCond .eq 7, 3) := by decide +kernel
theorem d_O_greatest_125 : decode b_O_greatest 125 = .ok (.iconst 1, 1) := by decide +kernel
theorem d_O_greatest_126 : decode b_O_greatest 126 = .ok (.goto 4, 3) := by decide +kernel
theorem d_O_greatest_129 : decode b_O_greatest 129 = .ok (.iconst 0, 1) := by decide +kernel
theorem d_O_greatest_130 : decode b_O_greatest 130 = .ok (.istore 9, 2) := by decide +kernel
theorem d_O_greatest_132 : decode b_O_greatest 132 = .ok (.iload 9, 2) := by decide +kernel
theorem d_O_greatest_134 : decode b_O_greatest 134 = .ok (.ifCond .eq 47, 3) := by decide +kernel
theorem d_O_greatest_137 : decode b_O_greatest 137 = .ok (.aload_n 0, 1) := by decide +kernel
theorem d_O_greatest_138 : decode b_O_greatest 138 = .ok (.getfield 42, 3) := by decide +kernel
theorem d_O_greatest_141 : decode b_O_greatest 141 = .ok (.aload_n 0, 1) := by decide +kernel
theorem d_O_greatest_142 : decode b_O_greatest 142 = .ok (.getfield 75, 3) := by decide +kernel
theorem d_O_greatest_145 : decode b_O_greatest 145 = .ok (.iload 4, 2) := by decide +kernel
theorem d_O_greatest_147 : decode b_O_greatest 147 = .ok (.iaload, 1) := by decide +kernel
theorem d_O_greatest_148 : decode b_O_greatest 148 = .ok (.laload, 1) := by decide +kernel
theorem d_O_greatest_149 : decode b_O_greatest 149 = .ok (.aload_n 0, 1) := by decide +kernel
theorem d_O_greatest_150 : decode b_O_greatest 150 = .ok (.iload 8, 2) := by decide +kernel
theorem d_O_greatest_152 : decode b_O_greatest 152 = .ok (.invokevirtual 111, 3) := by decide +kernel
theorem d_O_greatest_155 : decode b_O_greatest 155 = .ok (.lsub, 1) := by decide +kernel
theorem d_O_greatest_156 : decode b_O_greatest 156 = .ok (.aload_n 0, 1) := by decide +kernel
theorem d_O_greatest_157 : decode b_O_greatest 157 = .ok (.getfield 78, 3) := by decide +kernel
theorem d_O_greatest_160 : decode b_O_greatest 160 = .ok (.sipush 256, 3) := by decide +kernel
theorem d_O_greatest_163 : decode b_O_greatest 163 = .ok (.iload 4, 2) := by decide +kernel
theorem d_O_greatest_165 : decode b_O_greatest 165 = .ok (.iconst 1, 1) := by decide +kernel
theorem d_O_greatest_166 : decode b_O_greatest 166 = .ok (.iadd, 1) := by decide +kernel
theorem d_O_greatest_167 : decode b_O_greatest 167 = .ok (.imul, 1) := by decide +kernel
theorem d_O_greatest_168 : decode b_O_greatest 168 = .ok (.iload 5, 2) := by decide +kernel
theorem d_O_greatest_170 : decode b_O_greatest 170 = .ok (.iconst 1, 1) := by decide +kernel
theorem d_O_greatest_171 : decode b_O_greatest 171 = .ok (.iload 8, 2) := by decide +kernel
theorem d_O_greatest_173 : decode b_O_greatest 173 = .ok (.ishl, 1) := by decide +kernel
theorem d_O_greatest_174 : decode b_O_greatest 174 = .ok (.ior, 1) := by decide +kernel
theorem d_O_greatest_175 : decode b_O_greatest 175 = .ok (.iadd, 1) := by decide +kernel
theorem d_O_greatest_176 : decode b_O_greatest 176 = .ok (.laload, 1) := by decide +kernel
theorem d_O_greatest_177 : decode b_O_greatest 177 = .ok (.ladd, 1) := by decide +kernel
theorem d_O_greatest_178 : decode b_O_greatest 178 = .ok (.goto 6, 3) := by decide +kernel
theorem d_O_greatest_181 : decode b_O_greatest 181 = .ok (.ldc2_w 115, 3) := by decide +kernel
theorem d_O_greatest_184 : decode b_O_greatest 184 = .ok (.lstore 10, 2) := by decide +kernel
theorem d_O_greatest_186 : decode b_O_greatest 186 = .ok (.lload 10, 2) := by decide +kernel
theorem d_O_greatest_188 : decode b_O_greatest 188 = .ok (.lload 6, 2) := by decide +kernel
theorem d_O_greatest_190 : decode b_O_greatest 190 = .ok (.lcmp, 1) := by decide +kernel
theorem d_O_greatest_191 : decode b_O_greatest 191 = .ok (.ifCond .le 8, 3) := by decide +kernel
theorem d_O_greatest_194 : decode b_O_greatest 194 = .ok (.lload 10, 2) := by decide +kernel
theorem d_O_greatest_196 : decode b_O_greatest 196 = .ok (.goto 5, 3) := by decide +kernel
theorem d_O_greatest_199 : decode b_O_greatest 199 = .ok (.lload 6, 2) := by decide +kernel
theorem d_O_greatest_201 : decode b_O_greatest 201 = .ok (.lstore 6, 2) := by decide +kernel
theorem d_O_greatest_203 : decode b_O_greatest 203 = .ok (.iinc 8 1, 3) := by decide +kernel
theorem d_O_greatest_206 : decode b_O_greatest 206 = .ok (.goto (-133), 3) := by decide +kernel
theorem d_O_greatest_209 : decode b_O_greatest 209 = .ok (.aload_n 0, 1) := by decide +kernel
theorem d_O_greatest_210 : decode b_O_greatest 210 = .ok (.getfield 78, 3) := by decide +kernel
theorem d_O_greatest_213 : decode b_O_greatest 213 = .ok (.sipush 256, 3) := by decide +kernel
theorem d_O_greatest_216 : decode b_O_greatest 216 = .ok (.iload 4, 2) := by decide +kernel
theorem d_O_greatest_218 : decode b_O_greatest 218 = .ok (.imul, 1) := by decide +kernel
theorem d_O_greatest_219 : decode b_O_greatest 219 = .ok (.iload 5, 2) := by decide +kernel
theorem d_O_greatest_221 : decode b_O_greatest 221 = .ok (.iadd, 1) := by decide +kernel
theorem d_O_greatest_222 : decode b_O_greatest 222 = .ok (.lload 6, 2) := by decide +kernel
theorem d_O_greatest_224 : decode b_O_greatest 224 = .ok (.lastore, 1) := by decide +kernel
theorem d_O_greatest_225 : decode b_O_greatest 225 = .ok (.iinc 5 1, 3) := by decide +kernel
theorem d_O_greatest_228 : decode b_O_greatest 228 = .ok (.goto (-184), 3) := by decide +kernel
theorem d_O_greatest_231 : decode b_O_greatest 231 = .ok (.iinc 4 (-1), 3) := by decide +kernel
theorem d_O_greatest_234 : decode b_O_greatest 234 = .ok (.goto (-198), 3) := by decide +kernel
theorem d_O_greatest_237 : decode b_O_greatest 237 = .ok (.aload_n 0, 1) := by decide +kernel
theorem d_O_greatest_238 : decode b_O_greatest 238 = .ok (.getfield 78, 3) := by decide +kernel
theorem d_O_greatest_241 : decode b_O_greatest 241 = .ok (.iconst 0, 1) := by decide +kernel
theorem d_O_greatest_242 : decode b_O_greatest 242 = .ok (.laload, 1) := by decide +kernel
theorem d_O_greatest_243 : decode b_O_greatest 243 = .ok (.lreturn, 1) := by decide +kernel
def w_O_greatest : List Cond := .code y_O_greatest b_O_greatest 12 (some .long) :: ([.fieldLink "PartShelvesModel" 78 "PartShelvesModel" "brings" "[J", .fieldLink "PartShelvesModel" 81 "PartShelvesModel" "parts" "I", .fieldLink "PartShelvesModel" 75 "PartShelvesModel" "order" "[I", .methodLink "PartShelvesModel" 126 ⟨"PartShelvesModel", "isPair", "(II)Z"⟩, .instanceMethod ⟨"PartShelvesModel", "isPair", "(II)Z"⟩, .selects "PartShelvesModel" ⟨"PartShelvesModel", "isPair", "(II)Z"⟩ ⟨"PartShelvesModel", "isPair", "(II)Z"⟩, .initialized "PartShelvesModel", .code ⟨"PartShelvesModel", "isPair", "(II)Z"⟩ prog_9_method_18_code 4 (some .boolean), .methodLink "PartShelvesModel" 117 ⟨"PartShelvesModel", "stateOf", "(I)I"⟩, .instanceMethod ⟨"PartShelvesModel", "stateOf", "(I)I"⟩, .selects "PartShelvesModel" ⟨"PartShelvesModel", "stateOf", "(I)I"⟩ ⟨"PartShelvesModel", "stateOf", "(I)I"⟩, .code ⟨"PartShelvesModel", "stateOf", "(I)I"⟩ prog_9_method_14_code 2 (some .int), .fieldLink "PartShelvesModel" 30 "PartShelvesModel" "states" "[I", .fieldLink "PartShelvesModel" 36 "PartShelvesModel" "days" "[I", .fieldLink "PartShelvesModel" 88 "PartShelvesModel" "today" "I", .fieldLink "PartShelvesModel" 33 "PartShelvesModel" "whose" "[I", .methodLink "PartShelvesModel" 123 ⟨"PartShelvesModel", "isOpen", "(I)Z"⟩, .instanceMethod ⟨"PartShelvesModel", "isOpen", "(I)Z"⟩, .selects "PartShelvesModel" ⟨"PartShelvesModel", "isOpen", "(I)Z"⟩ ⟨"PartShelvesModel", "isOpen", "(I)Z"⟩, .code ⟨"PartShelvesModel", "isOpen", "(I)Z"⟩ prog_9_method_7_code 2 (some .boolean), .fieldLink "PartShelvesModel" 85 "PartShelvesModel" "asks" "I", .fieldLink "PartShelvesModel" 48 "PartShelvesModel" "served" "[Z", .fieldLink "PartShelvesModel" 17 "PartShelvesModel" "fits" "[Z", .fieldLink "PartShelvesModel" 21 "PartShelvesModel" "kinds" "[I", .fieldLink "PartShelvesModel" 39 "PartShelvesModel" "products" "[I", .fieldLink "PartShelvesModel" 42 "PartShelvesModel" "cents" "[J", .methodLink "PartShelvesModel" 111 ⟨"PartShelvesModel", "priceOf", "(I)J"⟩, .instanceMethod ⟨"PartShelvesModel", "priceOf", "(I)J"⟩, .selects "PartShelvesModel" ⟨"PartShelvesModel", "priceOf", "(I)J"⟩ ⟨"PartShelvesModel", "priceOf", "(I)J"⟩, .code ⟨"PartShelvesModel", "priceOf", "(I)J"⟩ prog_9_method_12_code 5 (some .long), .fieldLink "PartShelvesModel" 97 "PartShelvesModel" "rows" "I", .fieldLink "PartShelvesModel" 7 "PartShelvesModel" "rowAges" "[I", .fieldLink "PartShelvesModel" 24 "PartShelvesModel" "ages" "[I", .fieldLink "PartShelvesModel" 13 "PartShelvesModel" "rowCents" "[J", .constantLong "PartShelvesModel" 115 (-1)] ++ u_ws R_O F_O 36)
set_option maxRecDepth 20000 in
theorem g_O_greatest_isPair : GoodIn w_O_greatest (wsV R_O 126 R_O y_O_isPair w_O_isPair) := goodIn_p _ [8, 12, 20, 30] rfl (by decide +kernel)
set_option maxRecDepth 20000 in
theorem g_O_greatest_priceOf : GoodIn w_O_greatest (wsV R_O 111 R_O y_O_priceOf w_O_priceOf) := goodIn_p _ [30] rfl (by decide +kernel)
set_option maxHeartbeats 4000000 in
set_option maxRecDepth 100000 in
theorem c_O_great (l : Launch) (D : va_G) (kC : Nat → ClassId) (ad : Nat → Nat) (td : Nat) (rn : Nat) (pn : Nat) (an : Nat) (jn : Nat) (tn : Nat) (bm : Int32) (fw : Int64) (gp : Nat) (ga : Nat) (bp : Int32) (fc : Int64) (fj : Nat) (rA : Nat → Nat) (rC : Nat → Nat) (ft : Nat → Int32) (kd : Nat → Nat) (aG : Nat → Nat) (sR : Nat → Nat) (sT : Nat → Nat) (wh : Nat → Nat) (dY : Nat → Nat) (pd : Nat → Nat) (cN : Nat → Nat) (mN : Nat → Nat) (sv : Nat → Int32) (nd : Nat → Nat) (wr : Nat → Nat) (tl : Nat → Nat) (lt : Nat → Int32) (lT : Nat → Nat) (lD : Nat → Nat) (gv : Nat → Int32) (gn : Nat → Int64) (od : Nat → Nat) (br : Nat → Nat) (n : Nat) (x : Int32) (y : Int32) (w : Nat → Nat → Option Nat) (sz : Nat) (hn : n ≤ 8) (han : an ≤ 8) (hpn : pn ≤ 8) (hsT : ∀ j, sT j ≤ 3) (hdY : ∀ j, dY j ≤ 100000) (htd : td ≤ 100000) (hrn : rn ≤ 6) (hrA : ∀ j, rA j ≤ 1000) (haG : ∀ j, aG j ≤ 1000) (hkd : ∀ j, kd j < 6) (hpd : ∀ j, pd j < 6) (hcN : ∀ j, cN j ≤ 1000000) (hrC : ∀ j, rC j ≤ 100000) (hwh : ∀ j, wh j < 10) (hod : ∀ j, od j < 8) (hw : ∀ i q, i < n → q < pn → w i q = if nI (od i) = y then none else if ¬ nI q = x ∧ prsO td rn an rA rC ft kd aG sT wh dY pd cN sv q (od i) then some (cN (od i) - prM rA rC (aG q) rn) else none) (hwb : ∀ i q v, w i q = some v → v ≤ 1000000) : Met l y_O_greatest w_O_greatest ({ frames := 2, cells := 0, slots := 0, locals := 47 } : Room) (gPre cls D (tyL kC) [.ref (ad 0), .int (nI n), .int x, .int y] (fl [(wO kC ad td rn pn an jn tn bm fw gp ga bp fc fj rA rC ft kd aG sR sT wh dY pd cN mN sv nd wr tl lt lT lD gv gn od br)]) sz) (gQl cls D (tyL kC) (fl [(wO kC ad td rn pn an jn tn bm fw gp ga bp fc fj rA rC ft kd aG sR sT wh dY pd cN mN sv nd wr tl lt lT lD gv gn od br)]) sz (lN (gO w pn n n 0)) (fl [(wO kC ad td rn pn an jn tn bm fw gp ga bp fc fj rA rC ft kd aG sR sT wh dY pd cN mN sv nd wr tl lt lT lD gv gn od (brF w pn n br n))])) 0 0 (va_A (fl [(wO kC ad td rn pn an jn tn bm fw gp ga bp fc fj rA rC ft kd aG sR sT wh dY pd cN mN sv nd wr tl lt lT lD gv gn od br)]) sz) := by
  refine Met.ofW (cc := b_O_greatest) (maxL := 12) (ret := (some .long)) (by decide) rfl ?_
  intro p e s m args below meth c s₁ B hml hv
  obtain ⟨rfl, hsz, hP, hK, hD0⟩ := hv
  have hx := B.exec
  have hb := B.bytes
  have hr := B.returns
  have hts := atoms_spec (ws := w_O_greatest) B.pre
  have hown : s.vm.findClass R_O = some m.cls := findClass_of_methodNamed B.named
  have hlocks := B.notSynchronized
  subst hsz
  obtain ⟨A, hAe⟩ : ∃ A : Nat → Prop, A = va_A (fl [(wO kC ad td rn pn an jn tn bm fw gp ga bp fc fj rA rC ft kd aG sR sT wh dY pd cN mN sv nd wr tl lt lT lD gv gn od br)]) s.heap.size := ⟨_, rfl⟩
  have hD : va_D A (fl [(wO kC ad td rn pn an jn tn bm fw gp ga bp fc fj rA rC ft kd aG sR sT wh dY pd cN mN sv nd wr tl lt lT lD gv gn od br)]) := by rw [hAe]; exact hD0.self
  have hA : ∀ q : Nat, s.heap.size ≤ q → A q := fun q h => by rw [hAe]; exact Or.inr h
  have hS : va_S A s.heap s.heap [] := va_S.rf
  have hl := lv_entry ([.ref (ad 0), .int (nI n), .int x, .int y]) (n := 12) (Nat.le_of_ble_eq_true rfl)
  rw [lg_entry_eq]
  generalize (lg_sl ([.ref (ad 0), .int (nI n), .int x, .int y]) ++ List.replicate (12 - (lg_sl ([.ref (ad 0), .int (nI n), .int x, .int y])).length) Slot.unset).toArray = ls at hl ⊢
  have hl : lv_has ls 12 [(0, .ref (ad 0)), (1, .int (nI n)), (2, .int x), (3, .int y)] := hl
  refine lv_iconst (v := nI 0) hx hb d_O_greatest_0 (by decide) ?_
  refine lv_istore (lv' := [(4, .int (nI 0)), (0, .ref (ad 0)), (1, .int (nI n)), (2, .int x), (3, .int y)]) hx hb d_O_greatest_1 hl (by decide) rfl (fun ls hl => ?_)
  have L3 : ∀ (n3 : Nat) (t : Nat), 256 - t < n3 → t ≤ 256 → ∀ (H : Heap) (locs : List Loc), va_P D cls (fl [(wO kC ad td rn pn an jn tn bm fw gp ga bp fc fj rA rC ft kd aG sR sT wh dY pd cN mN sv nd wr tl lt lT lD gv gn od (brZ n br t))]) H → va_D A (fl [(wO kC ad td rn pn an jn tn bm fw gp ga bp fc fj rA rC ft kd aG sR sT wh dY pd cN mN sv nd wr tl lt lT lD gv gn od (brZ n br t))]) → va_S A s.heap H locs → ∀ (ls : Array Slot), lv_has ls 12 [(0, .ref (ad 0)), (1, .int (nI n)), (2, .int x), (3, .int y), (4, .int (nI t))] → W p l e (headSpec w_O_greatest ({ frames := 2, cells := 0, slots := 0, locals := 47 } : Room)).room s m ([.ref (ad 0), .int (nI n), .int x, .int y] : List Value).toArray below meth c H locs 0 0 (MQ below (gQl cls D (tyL kC) (fl [(wO kC ad td rn pn an jn tn bm fw gp ga bp fc fj rA rC ft kd aG sR sT wh dY pd cN mN sv nd wr tl lt lT lD gv gn od br)]) s.heap.size (lN (gO w pn n n 0)) (fl [(wO kC ad td rn pn an jn tn bm fw gp ga bp fc fj rA rC ft kd aG sR sT wh dY pd cN mN sv nd wr tl lt lT lD gv gn od (brF w pn n br n))])) ([.ref (ad 0), .int (nI n), .int x, .int y] : List Value).toArray s 0 0 (va_A (fl [(wO kC ad td rn pn an jn tn bm fw gp ga bp fc fj rA rC ft kd aG sR sT wh dY pd cN mN sv nd wr tl lt lT lD gv gn od br)]) s.heap.size)) (F0 m 3 ls []) := by
    intro n3
    induction n3 with
    | zero =>
      intro t hm
      exact absurd hm (Nat.not_lt_zero _)
    | succ n3 ih3 =>
      intro t hm htt H locs hP hD hS ls hl
      refine lv_iload hx hb d_O_greatest_3 (lv_at hl 4 rfl) ?_
      refine lv_sipush (v := nI 256) hx hb d_O_greatest_5 (by decide +kernel) ?_
      refine nv_icmp_ge (tgt := 31) hx hb d_O_greatest_8 (by decide) (by omega) (by omega) (fun ht => ?_) (fun ht => ?_)
      · obtain rfl : t = 256 := by omega
        refine lv_iload_n hx hb d_O_greatest_31 rfl (lv_at hl 1 rfl) ?_
        refine lv_iconst (v := nI 1) hx hb d_O_greatest_32 (by decide) ?_
        refine lv_isub hx hb d_O_greatest_33 ?_
        refine lv_istore (lv' := [(4, .int ((nI n) - (nI 1))), (0, .ref (ad 0)), (1, .int (nI n)), (2, .int x), (3, .int y)]) hx hb d_O_greatest_34 hl (by decide) rfl (fun ls hl => ?_)
        have L36 : ∀ (n36 : Nat) (k : Nat) (r : Nat), k < n36 → k + r = n → ∀ (H : Heap) (locs : List Loc), va_P D cls (fl [(wO kC ad td rn pn an jn tn bm fw gp ga bp fc fj rA rC ft kd aG sR sT wh dY pd cN mN sv nd wr tl lt lT lD gv gn od (brF w pn n br r))]) H → va_D A (fl [(wO kC ad td rn pn an jn tn bm fw gp ga bp fc fj rA rC ft kd aG sR sT wh dY pd cN mN sv nd wr tl lt lT lD gv gn od (brF w pn n br r))]) → va_S A s.heap H locs → ∀ (ls : Array Slot), lv_has ls 12 [(0, .ref (ad 0)), (1, .int (nI n)), (2, .int x), (3, .int y), (4, .int (nI k - nI 1))] → W p l e (headSpec w_O_greatest ({ frames := 2, cells := 0, slots := 0, locals := 47 } : Room)).room s m ([.ref (ad 0), .int (nI n), .int x, .int y] : List Value).toArray below meth c H locs 0 0 (MQ below (gQl cls D (tyL kC) (fl [(wO kC ad td rn pn an jn tn bm fw gp ga bp fc fj rA rC ft kd aG sR sT wh dY pd cN mN sv nd wr tl lt lT lD gv gn od br)]) s.heap.size (lN (gO w pn n n 0)) (fl [(wO kC ad td rn pn an jn tn bm fw gp ga bp fc fj rA rC ft kd aG sR sT wh dY pd cN mN sv nd wr tl lt lT lD gv gn od (brF w pn n br n))])) ([.ref (ad 0), .int (nI n), .int x, .int y] : List Value).toArray s 0 0 (va_A (fl [(wO kC ad td rn pn an jn tn bm fw gp ga bp fc fj rA rC ft kd aG sR sT wh dY pd cN mN sv nd wr tl lt lT lD gv gn od br)]) s.heap.size)) (F0 m 36 ls []) := by
          intro n36
          induction n36 with
          | zero =>
            intro k r hm
            exact absurd hm (Nat.not_lt_zero _)
          | succ n36 ih36 =>
            intro k r hm hkr H locs hP hD hS ls hl
            refine lv_iload hx hb d_O_greatest_36 (lv_at hl 4 rfl) ?_
            refine lv_if_lt (tgt := 237) hx hb d_O_greatest_38 (by decide) (fun hk => ?_) (fun hk => ?_)
            · obtain rfl : k = 0 := (rk_neg (by omega)).mp hk
              obtain rfl : n = r := by omega
              refine lv_aload_n hx hb d_O_greatest_237 rfl (lv_at hl 0 rfl) ?_
              refine fv_get (ci := 7) (v := .ref (ad 23)) (C := R_O) (T := F_O) (N := 36) hx hb hts (by decide +kernel) hown hK hP 0 0 rfl rfl rfl 35 (by decide) (hts (.fieldLink R_O 78 "PartShelvesModel" "brings" "[J") (by decide +kernel)) (fun _ h9 => h9) rfl d_O_greatest_238 ?_
              refine lv_iconst (v := nI 0) hx hb d_O_greatest_241 (by decide) ?_
              refine fa_laldN hx hb hK hP 0 23 1 rfl rfl rfl (by omega) (by decide) d_O_greatest_242 ?_
              refine nv_topl (y := lN (gO w pn n n 0)) (congrArg lN ((brF_at w pn n br 0 0 (Nat.zero_le _) (by decide)).trans (by rw [Nat.sub_zero]))) ?_
              exact W.lret (v := lN (gO w pn n n 0)) hx hb hr (fun t ht hW => by subst hAe; exact ⟨⟨(lN (gO w pn n n 0)), (), rfl, rfl, by rw [ht]; exact hP, va_K.moved hW.alike hK, hD⟩, hS.F ht⟩) (by subst hAe; exact hS.2.2) d_O_greatest_243
            · obtain ⟨i, rfl⟩ := rk_pos (by omega) hk
              obtain rfl : i = n - 1 - r := by omega
              have el1 : nI (n - 1 - r + 1) - nI 1 = nI (n - 1 - r) := nI_pred _
              have hl : lv_has ls 12 [(0, .ref (ad 0)), (1, .int (nI n)), (2, .int x), (3, .int y), (4, .int (nI (n - 1 - r)))] := by rw [← el1]; exact hl
              refine lv_iconst (v := nI 0) hx hb d_O_greatest_41 (by decide) ?_
              refine lv_istore (lv' := [(5, .int (nI 0)), (0, .ref (ad 0)), (1, .int (nI n)), (2, .int x), (3, .int y), (4, .int (nI (n - 1 - r)))]) hx hb d_O_greatest_42 hl (by decide) rfl (fun ls hl => ?_)
              have L44 : ∀ (n44 : Nat) (t : Nat), 256 - t < n44 → t ≤ 256 → ∀ (H : Heap) (locs : List Loc), va_P D cls (fl [(wO kC ad td rn pn an jn tn bm fw gp ga bp fc fj rA rC ft kd aG sR sT wh dY pd cN mN sv nd wr tl lt lT lD gv gn od (brP w pn n br r t))]) H → va_D A (fl [(wO kC ad td rn pn an jn tn bm fw gp ga bp fc fj rA rC ft kd aG sR sT wh dY pd cN mN sv nd wr tl lt lT lD gv gn od (brP w pn n br r t))]) → va_S A s.heap H locs → ∀ (ls : Array Slot), lv_has ls 12 [(0, .ref (ad 0)), (1, .int (nI n)), (2, .int x), (3, .int y), (4, .int (nI (n - 1 - r))), (5, .int (nI t))] → W p l e (headSpec w_O_greatest ({ frames := 2, cells := 0, slots := 0, locals := 47 } : Room)).room s m ([.ref (ad 0), .int (nI n), .int x, .int y] : List Value).toArray below meth c H locs 0 0 (MQ below (gQl cls D (tyL kC) (fl [(wO kC ad td rn pn an jn tn bm fw gp ga bp fc fj rA rC ft kd aG sR sT wh dY pd cN mN sv nd wr tl lt lT lD gv gn od br)]) s.heap.size (lN (gO w pn n n 0)) (fl [(wO kC ad td rn pn an jn tn bm fw gp ga bp fc fj rA rC ft kd aG sR sT wh dY pd cN mN sv nd wr tl lt lT lD gv gn od (brF w pn n br n))])) ([.ref (ad 0), .int (nI n), .int x, .int y] : List Value).toArray s 0 0 (va_A (fl [(wO kC ad td rn pn an jn tn bm fw gp ga bp fc fj rA rC ft kd aG sR sT wh dY pd cN mN sv nd wr tl lt lT lD gv gn od br)]) s.heap.size)) (F0 m 44 ls []) := by
                intro n44
                induction n44 with
                | zero =>
                  intro t hm
                  exact absurd hm (Nat.not_lt_zero _)
                | succ n44 ih44 =>
                  intro t hm htt H locs hP hD hS ls hl
                  refine lv_iload hx hb d_O_greatest_44 (lv_at hl 5 rfl) ?_
                  refine lv_sipush (v := nI 256) hx hb d_O_greatest_46 (by decide +kernel) ?_
                  refine nv_icmp_ge (tgt := 231) hx hb d_O_greatest_49 (by decide) (by omega) (by omega) (fun ht => ?_) (fun ht => ?_)
                  · obtain rfl : t = 256 := by omega
                    refine lv_iinc (v := (nI (n - 1 - r)) - nI 1) (lv' := [(4, .int ((nI (n - 1 - r)) - nI 1)), (0, .ref (ad 0)), (1, .int (nI n)), (2, .int x), (3, .int y), (5, .int (nI 256))]) hx hb d_O_greatest_231 hl (k := 4) rfl (by rw [Int32.sub_eq_add_neg]; rfl) (by decide) rfl (fun ls hl => ?_)
                    refine lv_goto (tgt := 36) hx hb d_O_greatest_234 (by decide) ?_
                    have ew2 : (brP w pn n br r 256) = (brF w pn n br (r + 1)) := brP_e w pn n br r (by omega)
                    have hP : va_P D cls (fl [(wO kC ad td rn pn an jn tn bm fw gp ga bp fc fj rA rC ft kd aG sR sT wh dY pd cN mN sv nd wr tl lt lT lD gv gn od (brF w pn n br (r + 1)))]) H := by rw [← ew2]; exact hP
                    have hD : va_D A (fl [(wO kC ad td rn pn an jn tn bm fw gp ga bp fc fj rA rC ft kd aG sR sT wh dY pd cN mN sv nd wr tl lt lT lD gv gn od (brF w pn n br (r + 1)))]) := by rw [← ew2]; exact hD
                    exact ih36 (n - 1 - r) (r + 1) (by omega) (by omega) _ _ hP hD hS ls (lv_sub hl [1, 2, 3, 4, 0] rfl)
                  · refine lv_aload_n hx hb d_O_greatest_52 rfl (lv_at hl 0 rfl) ?_
                    refine fv_get (ci := 7) (v := .ref (ad 23)) (C := R_O) (T := F_O) (N := 36) hx hb hts (by decide +kernel) hown hK hP 0 0 rfl rfl rfl 35 (by decide) (hts (.fieldLink R_O 78 "PartShelvesModel" "brings" "[J") (by decide +kernel)) (fun _ h9 => h9) rfl d_O_greatest_53 ?_
                    refine lv_sipush (v := nI 256) hx hb d_O_greatest_56 (by decide +kernel) ?_
                    refine lv_iload hx hb d_O_greatest_59 (lv_at hl 4 rfl) ?_
                    refine lv_iconst (v := nI 1) hx hb d_O_greatest_61 (by decide) ?_
                    refine nv_iadd hx hb d_O_greatest_62 ?_
                    refine nv_imul hx hb d_O_greatest_63 ?_
                    refine lv_iload hx hb d_O_greatest_64 (lv_at hl 5 rfl) ?_
                    refine nv_iadd hx hb d_O_greatest_66 ?_
                    refine fa_laldN hx hb hK hP 0 23 1 rfl rfl rfl (by omega) (by decide) d_O_greatest_67 ?_
                    refine nv_topl (y := lN (rwG (w (n - 1 - r)) (gO w pn n r) t 0)) (congrArg lN (brP_up w pn n br r t t (by omega) ht (by omega))) ?_
                    refine lv_lstore (lv' := [(6, .long (lN (rwG (w (n - 1 - r)) (gO w pn n r) t 0))), (0, .ref (ad 0)), (1, .int (nI n)), (2, .int x), (3, .int y), (4, .int (nI (n - 1 - r))), (5, .int (nI t))]) hx hb d_O_greatest_68 hl (by decide) rfl (fun ls hl => ?_)
                    refine lv_iconst (v := nI 0) hx hb d_O_greatest_70 (by decide) ?_
                    refine lv_istore (lv' := [(8, .int (nI 0)), (6, .long (lN (rwG (w (n - 1 - r)) (gO w pn n r) t 0))), (0, .ref (ad 0)), (1, .int (nI n)), (2, .int x), (3, .int y), (4, .int (nI (n - 1 - r))), (5, .int (nI t))]) hx hb d_O_greatest_71 hl (by decide) rfl (fun ls hl => ?_)
                    have L73 : ∀ (n73 : Nat) (q : Nat), pn - q < n73 → q ≤ pn → ∀ (H : Heap) (locs : List Loc), va_P D cls (fl [(wO kC ad td rn pn an jn tn bm fw gp ga bp fc fj rA rC ft kd aG sR sT wh dY pd cN mN sv nd wr tl lt lT lD gv gn od (brP w pn n br r t))]) H → va_D A (fl [(wO kC ad td rn pn an jn tn bm fw gp ga bp fc fj rA rC ft kd aG sR sT wh dY pd cN mN sv nd wr tl lt lT lD gv gn od (brP w pn n br r t))]) → va_S A s.heap H locs → ∀ (ls : Array Slot), lv_has ls 12 [(0, .ref (ad 0)), (1, .int (nI n)), (2, .int x), (3, .int y), (4, .int (nI (n - 1 - r))), (5, .int (nI t)), (6, .long (lN (rwG (w (n - 1 - r)) (gO w pn n r) t q))), (8, .int (nI q))] → W p l e (headSpec w_O_greatest ({ frames := 2, cells := 0, slots := 0, locals := 47 } : Room)).room s m ([.ref (ad 0), .int (nI n), .int x, .int y] : List Value).toArray below meth c H locs 0 0 (MQ below (gQl cls D (tyL kC) (fl [(wO kC ad td rn pn an jn tn bm fw gp ga bp fc fj rA rC ft kd aG sR sT wh dY pd cN mN sv nd wr tl lt lT lD gv gn od br)]) s.heap.size (lN (gO w pn n n 0)) (fl [(wO kC ad td rn pn an jn tn bm fw gp ga bp fc fj rA rC ft kd aG sR sT wh dY pd cN mN sv nd wr tl lt lT lD gv gn od (brF w pn n br n))])) ([.ref (ad 0), .int (nI n), .int x, .int y] : List Value).toArray s 0 0 (va_A (fl [(wO kC ad td rn pn an jn tn bm fw gp ga bp fc fj rA rC ft kd aG sR sT wh dY pd cN mN sv nd wr tl lt lT lD gv gn od br)]) s.heap.size)) (F0 m 73 ls []) := by
                      intro n73
                      induction n73 with
                      | zero =>
                        intro q hm
                        exact absurd hm (Nat.not_lt_zero _)
                      | succ n73 ih73 =>
                        intro q hm hqp H locs hP hD hS ls hl
                        refine lv_iload hx hb d_O_greatest_73 (lv_at hl 7 rfl) ?_
                        refine lv_aload_n hx hb d_O_greatest_75 rfl (lv_at hl 0 rfl) ?_
                        refine fv_get (ci := 7) (v := .int (nI pn)) (C := R_O) (T := F_O) (N := 36) hx hb hts (by decide +kernel) hown hK hP 0 0 rfl rfl rfl 5 (by decide) (hts (.fieldLink R_O 81 "PartShelvesModel" "parts" "I") (by decide +kernel)) (fun _ h9 => h9) rfl d_O_greatest_76 ?_
                        refine nv_icmp_ge (tgt := 209) hx hb d_O_greatest_79 (by decide) (by omega) (by omega) (fun hq => ?_) (fun hq => ?_)
                        · obtain rfl : pn = q := by omega
                          refine lv_aload_n hx hb d_O_greatest_209 rfl (lv_at hl 0 rfl) ?_
                          refine fv_get (ci := 7) (v := .ref (ad 23)) (C := R_O) (T := F_O) (N := 36) hx hb hts (by decide +kernel) hown hK hP 0 0 rfl rfl rfl 35 (by decide) (hts (.fieldLink R_O 78 "PartShelvesModel" "brings" "[J") (by decide +kernel)) (fun _ h9 => h9) rfl d_O_greatest_210 ?_
                          refine lv_sipush (v := nI 256) hx hb d_O_greatest_213 (by decide +kernel) ?_
                          refine lv_iload hx hb d_O_greatest_216 (lv_at hl 4 rfl) ?_
                          refine nv_imul hx hb d_O_greatest_218 ?_
                          refine lv_iload hx hb d_O_greatest_219 (lv_at hl 5 rfl) ?_
                          refine nv_iadd hx hb d_O_greatest_221 ?_
                          refine lv_lload hx hb d_O_greatest_222 (lv_at hl 6 rfl) ?_
                          refine fa_lastN hx hb hK hP hD hS 0 23 1 rfl rfl rfl (by omega) (by decide) d_O_greatest_224 (fun H locs hP hD hS => ?_)
                          have hP : va_P D cls (fl [(wO kC ad td rn pn an jn tn bm fw gp ga bp fc fj rA rC ft kd aG sR sT wh dY pd cN mN sv nd wr tl lt lT lD gv gn od (updN (brP w pn n br r t) (256 * (n - 1 - r) + t) (rwG (w (n - 1 - r)) (gO w pn n r) t pn)))]) H := hP
                          have hD : va_D A (fl [(wO kC ad td rn pn an jn tn bm fw gp ga bp fc fj rA rC ft kd aG sR sT wh dY pd cN mN sv nd wr tl lt lT lD gv gn od (updN (brP w pn n br r t) (256 * (n - 1 - r) + t) (rwG (w (n - 1 - r)) (gO w pn n r) t pn)))]) := hD
                          refine lv_iinc (v := nI (t + 1)) (lv' := [(5, .int (nI (t + 1))), (0, .ref (ad 0)), (1, .int (nI n)), (2, .int x), (3, .int y), (4, .int (nI (n - 1 - r))), (6, .long (lN (rwG (w (n - 1 - r)) (gO w pn n r) t pn))), (8, .int (nI pn))]) hx hb d_O_greatest_225 hl (k := 5) rfl (nI_1 t) (by decide) rfl (fun ls hl => ?_)
                          refine lv_goto (tgt := 44) hx hb d_O_greatest_228 (by decide) ?_
                          have ew3 : (updN (brP w pn n br r t) (256 * (n - 1 - r) + t) (rwG (w (n - 1 - r)) (gO w pn n r) t pn)) = (brP w pn n br r (t + 1)) := brP_s w pn n br r t
                          have hP : va_P D cls (fl [(wO kC ad td rn pn an jn tn bm fw gp ga bp fc fj rA rC ft kd aG sR sT wh dY pd cN mN sv nd wr tl lt lT lD gv gn od (brP w pn n br r (t + 1)))]) H := by rw [← ew3]; exact hP
                          have hD : va_D A (fl [(wO kC ad td rn pn an jn tn bm fw gp ga bp fc fj rA rC ft kd aG sR sT wh dY pd cN mN sv nd wr tl lt lT lD gv gn od (brP w pn n br r (t + 1)))]) := by rw [← ew3]; exact hD
                          exact ih44 (t + 1) (by omega) (ht) _ _ hP hD hS ls (lv_sub hl [1, 2, 3, 4, 5, 0] rfl)
                        · refine lv_aload_n hx hb d_O_greatest_82 rfl (lv_at hl 0 rfl) ?_
                          refine fv_get (ci := 7) (v := .ref (ad 22)) (C := R_O) (T := F_O) (N := 36) hx hb hts (by decide +kernel) hown hK hP 0 0 rfl rfl rfl 34 (by decide) (hts (.fieldLink R_O 75 "PartShelvesModel" "order" "[I") (by decide +kernel)) (fun _ h9 => h9) rfl d_O_greatest_83 ?_
                          refine lv_iload hx hb d_O_greatest_86 (lv_at hl 4 rfl) ?_
                          refine fa_ialdN hx hb hK hP 0 22 0 rfl rfl rfl (by omega) (by decide) d_O_greatest_88 ?_
                          refine lv_iload_n hx hb d_O_greatest_89 rfl (lv_at hl 3 rfl) ?_
                          refine lv_icmp_eq (tgt := 209) hx hb d_O_greatest_90 (by decide) (fun hy => ?_) (fun hy => ?_)
                          · have hrow : ∀ z, z ≤ pn → rwG (w (n - 1 - r)) (gO w pn n r) t z = gO w pn n r t := fun z => by
                              induction z with
                              | zero => exact fun _ => rfl
                              | succ z ih => intro hz; have h := hw (n - 1 - r) z (by omega) (by omega); rw [if_pos hy] at h; simp only [rwG, h]; exact ih (by omega)
                            have el4 : lN (rwG (w (n - 1 - r)) (gO w pn n r) t q) = lN (rwG (w (n - 1 - r)) (gO w pn n r) t pn) := by rw [hrow q hqp, hrow pn (Nat.le_refl _)]
                            have hl : lv_has ls 12 [(0, .ref (ad 0)), (1, .int (nI n)), (2, .int x), (3, .int y), (4, .int (nI (n - 1 - r))), (5, .int (nI t)), (6, .long (lN (rwG (w (n - 1 - r)) (gO w pn n r) t pn))), (8, .int (nI q))] := by rw [← el4]; exact hl
                            refine lv_aload_n hx hb d_O_greatest_209 rfl (lv_at hl 0 rfl) ?_
                            refine fv_get (ci := 7) (v := .ref (ad 23)) (C := R_O) (T := F_O) (N := 36) hx hb hts (by decide +kernel) hown hK hP 0 0 rfl rfl rfl 35 (by decide) (hts (.fieldLink R_O 78 "PartShelvesModel" "brings" "[J") (by decide +kernel)) (fun _ h9 => h9) rfl d_O_greatest_210 ?_
                            refine lv_sipush (v := nI 256) hx hb d_O_greatest_213 (by decide +kernel) ?_
                            refine lv_iload hx hb d_O_greatest_216 (lv_at hl 4 rfl) ?_
                            refine nv_imul hx hb d_O_greatest_218 ?_
                            refine lv_iload hx hb d_O_greatest_219 (lv_at hl 5 rfl) ?_
                            refine nv_iadd hx hb d_O_greatest_221 ?_
                            refine lv_lload hx hb d_O_greatest_222 (lv_at hl 6 rfl) ?_
                            refine fa_lastN hx hb hK hP hD hS 0 23 1 rfl rfl rfl (by omega) (by decide) d_O_greatest_224 (fun H locs hP hD hS => ?_)
                            have hP : va_P D cls (fl [(wO kC ad td rn pn an jn tn bm fw gp ga bp fc fj rA rC ft kd aG sR sT wh dY pd cN mN sv nd wr tl lt lT lD gv gn od (updN (brP w pn n br r t) (256 * (n - 1 - r) + t) (rwG (w (n - 1 - r)) (gO w pn n r) t pn)))]) H := hP
                            have hD : va_D A (fl [(wO kC ad td rn pn an jn tn bm fw gp ga bp fc fj rA rC ft kd aG sR sT wh dY pd cN mN sv nd wr tl lt lT lD gv gn od (updN (brP w pn n br r t) (256 * (n - 1 - r) + t) (rwG (w (n - 1 - r)) (gO w pn n r) t pn)))]) := hD
                            refine lv_iinc (v := nI (t + 1)) (lv' := [(5, .int (nI (t + 1))), (0, .ref (ad 0)), (1, .int (nI n)), (2, .int x), (3, .int y), (4, .int (nI (n - 1 - r))), (6, .long (lN (rwG (w (n - 1 - r)) (gO w pn n r) t pn))), (8, .int (nI q))]) hx hb d_O_greatest_225 hl (k := 5) rfl (nI_1 t) (by decide) rfl (fun ls hl => ?_)
                            refine lv_goto (tgt := 44) hx hb d_O_greatest_228 (by decide) ?_
                            have ew5 : (updN (brP w pn n br r t) (256 * (n - 1 - r) + t) (rwG (w (n - 1 - r)) (gO w pn n r) t pn)) = (brP w pn n br r (t + 1)) := brP_s w pn n br r t
                            have hP : va_P D cls (fl [(wO kC ad td rn pn an jn tn bm fw gp ga bp fc fj rA rC ft kd aG sR sT wh dY pd cN mN sv nd wr tl lt lT lD gv gn od (brP w pn n br r (t + 1)))]) H := by rw [← ew5]; exact hP
                            have hD : va_D A (fl [(wO kC ad td rn pn an jn tn bm fw gp ga bp fc fj rA rC ft kd aG sR sT wh dY pd cN mN sv nd wr tl lt lT lD gv gn od (brP w pn n br r (t + 1)))]) := by rw [← ew5]; exact hD
                            exact ih44 (t + 1) (by omega) (ht) _ _ hP hD hS ls (lv_sub hl [1, 2, 3, 4, 5, 0] rfl)
                          · have hwq := hw (n - 1 - r) q (by omega) hq
                            rw [if_neg hy] at hwq
                            refine lv_iload hx hb d_O_greatest_93 (lv_at hl 5 rfl) ?_
                            refine lv_iload hx hb d_O_greatest_95 (lv_at hl 7 rfl) ?_
                            refine lv_ishr hx hb d_O_greatest_97 ?_
                            refine lv_iconst (v := nI 1) hx hb d_O_greatest_98 (by decide) ?_
                            refine lv_iand hx hb d_O_greatest_99 ?_
                            refine nv_topi (y := nI (t / 2 ^ q % 2)) (bitI (by omega) (by omega)) ?_
                            refine nv_if_ne (tgt := 129) hx hb d_O_greatest_100 (by decide) (by omega) (fun hbit => ?_) (fun hbit => ?_)
                            · refine lv_iconst (v := nI 0) hx hb d_O_greatest_129 (by decide) ?_
                              refine lv_istore (lv' := [(9, .int (nI 0)), (0, .ref (ad 0)), (1, .int (nI n)), (2, .int x), (3, .int y), (4, .int (nI (n - 1 - r))), (5, .int (nI t)), (6, .long (lN (rwG (w (n - 1 - r)) (gO w pn n r) t q))), (8, .int (nI q))]) hx hb d_O_greatest_130 hl (by decide) rfl (fun ls hl => ?_)
                              refine lv_iload hx hb d_O_greatest_132 (lv_at hl 0 rfl) ?_
                              refine nv_if_eq (tgt := 181) hx hb d_O_greatest_134 (by decide) (by decide) (fun c6 => ?_) (fun c6 => ?_)
                              · refine lv_ldc2 (v := (-1)) hx hb hown (hts (.constantLong R_O 115 (-1)) (by decide +kernel)) d_O_greatest_181 ?_
                                refine lv_lstore (lv' := [(10, .long (-1)), (9, .int (nI 0)), (0, .ref (ad 0)), (1, .int (nI n)), (2, .int x), (3, .int y), (4, .int (nI (n - 1 - r))), (5, .int (nI t)), (6, .long (lN (rwG (w (n - 1 - r)) (gO w pn n r) t q))), (8, .int (nI q))]) hx hb d_O_greatest_184 hl (by decide) rfl (fun ls hl => ?_)
                                refine lv_lload hx hb d_O_greatest_186 (lv_at hl 0 rfl) ?_
                                refine lv_lload hx hb d_O_greatest_188 (lv_at hl 8 rfl) ?_
                                refine lc_le (tgt := 199) hx hb d_O_greatest_190 d_O_greatest_191 (by decide) (fun hc => ?_) (fun hc => ?_)
                                · refine lv_lload hx hb d_O_greatest_199 (lv_at hl 8 rfl) ?_
                                  refine lv_lstore (lv' := [(6, .long (lN (rwG (w (n - 1 - r)) (gO w pn n r) t q))), (10, .long (-1)), (9, .int (nI 0)), (0, .ref (ad 0)), (1, .int (nI n)), (2, .int x), (3, .int y), (4, .int (nI (n - 1 - r))), (5, .int (nI t)), (8, .int (nI q))]) hx hb d_O_greatest_201 hl (by decide) rfl (fun ls hl => ?_)
                                  have el7 : lN (rwG (w (n - 1 - r)) (gO w pn n r) t q) = lN (rwG (w (n - 1 - r)) (gO w pn n r) t (q + 1)) := congrArg lN (by simp only [rwG]; first | (rw [if_neg (fun z => by first | exact z.1 hx0 | exact bI_0.mp hpr z.2)] at hwq; rw [hwq]) | (split; exact (if_neg hbit).symm; rfl))
                                  have hl : lv_has ls 12 [(6, .long (lN (rwG (w (n - 1 - r)) (gO w pn n r) t (q + 1)))), (10, .long (-1)), (9, .int (nI 0)), (0, .ref (ad 0)), (1, .int (nI n)), (2, .int x), (3, .int y), (4, .int (nI (n - 1 - r))), (5, .int (nI t)), (8, .int (nI q))] := by rw [← el7]; exact hl
                                  refine lv_iinc (v := nI (q + 1)) (lv' := [(8, .int (nI (q + 1))), (6, .long (lN (rwG (w (n - 1 - r)) (gO w pn n r) t (q + 1)))), (10, .long (-1)), (9, .int (nI 0)), (0, .ref (ad 0)), (1, .int (nI n)), (2, .int x), (3, .int y), (4, .int (nI (n - 1 - r))), (5, .int (nI t))]) hx hb d_O_greatest_203 hl (k := 9) rfl (nI_1 q) (by decide) rfl (fun ls hl => ?_)
                                  refine lv_goto (tgt := 73) hx hb d_O_greatest_206 (by decide) ?_
                                  exact ih73 (q + 1) (by omega) (hq) _ _ hP hD hS ls (lv_sub hl [4, 5, 6, 7, 8, 9, 1, 0] rfl)
                                · exact absurd (m1_leN (Nat.lt_of_le_of_lt (rwG_le (fun z => gO_le hwb r z) (fun q v h => hwb _ q v h) t q) (by omega))) hc
                              · exact absurd c6 (by decide)
                            · refine lv_iload hx hb d_O_greatest_103 (lv_at hl 7 rfl) ?_
                              refine lv_iload_n hx hb d_O_greatest_105 rfl (lv_at hl 2 rfl) ?_
                              refine lv_icmp_eq (tgt := 129) hx hb d_O_greatest_106 (by decide) (fun hx0 => ?_) (fun hx0 => ?_)
                              · refine lv_iconst (v := nI 0) hx hb d_O_greatest_129 (by decide) ?_
                                refine lv_istore (lv' := [(9, .int (nI 0)), (0, .ref (ad 0)), (1, .int (nI n)), (2, .int x), (3, .int y), (4, .int (nI (n - 1 - r))), (5, .int (nI t)), (6, .long (lN (rwG (w (n - 1 - r)) (gO w pn n r) t q))), (8, .int (nI q))]) hx hb d_O_greatest_130 hl (by decide) rfl (fun ls hl => ?_)
                                refine lv_iload hx hb d_O_greatest_132 (lv_at hl 0 rfl) ?_
                                refine nv_if_eq (tgt := 181) hx hb d_O_greatest_134 (by decide) (by decide) (fun c8 => ?_) (fun c8 => ?_)
                                · refine lv_ldc2 (v := (-1)) hx hb hown (hts (.constantLong R_O 115 (-1)) (by decide +kernel)) d_O_greatest_181 ?_
                                  refine lv_lstore (lv' := [(10, .long (-1)), (9, .int (nI 0)), (0, .ref (ad 0)), (1, .int (nI n)), (2, .int x), (3, .int y), (4, .int (nI (n - 1 - r))), (5, .int (nI t)), (6, .long (lN (rwG (w (n - 1 - r)) (gO w pn n r) t q))), (8, .int (nI q))]) hx hb d_O_greatest_184 hl (by decide) rfl (fun ls hl => ?_)
                                  refine lv_lload hx hb d_O_greatest_186 (lv_at hl 0 rfl) ?_
                                  refine lv_lload hx hb d_O_greatest_188 (lv_at hl 8 rfl) ?_
                                  refine lc_le (tgt := 199) hx hb d_O_greatest_190 d_O_greatest_191 (by decide) (fun hc => ?_) (fun hc => ?_)
                                  · refine lv_lload hx hb d_O_greatest_199 (lv_at hl 8 rfl) ?_
                                    refine lv_lstore (lv' := [(6, .long (lN (rwG (w (n - 1 - r)) (gO w pn n r) t q))), (10, .long (-1)), (9, .int (nI 0)), (0, .ref (ad 0)), (1, .int (nI n)), (2, .int x), (3, .int y), (4, .int (nI (n - 1 - r))), (5, .int (nI t)), (8, .int (nI q))]) hx hb d_O_greatest_201 hl (by decide) rfl (fun ls hl => ?_)
                                    have el9 : lN (rwG (w (n - 1 - r)) (gO w pn n r) t q) = lN (rwG (w (n - 1 - r)) (gO w pn n r) t (q + 1)) := congrArg lN (by simp only [rwG]; first | (rw [if_neg (fun z => by first | exact z.1 hx0 | exact bI_0.mp hpr z.2)] at hwq; rw [hwq]) | (split; exact (if_neg hbit).symm; rfl))
                                    have hl : lv_has ls 12 [(6, .long (lN (rwG (w (n - 1 - r)) (gO w pn n r) t (q + 1)))), (10, .long (-1)), (9, .int (nI 0)), (0, .ref (ad 0)), (1, .int (nI n)), (2, .int x), (3, .int y), (4, .int (nI (n - 1 - r))), (5, .int (nI t)), (8, .int (nI q))] := by rw [← el9]; exact hl
                                    refine lv_iinc (v := nI (q + 1)) (lv' := [(8, .int (nI (q + 1))), (6, .long (lN (rwG (w (n - 1 - r)) (gO w pn n r) t (q + 1)))), (10, .long (-1)), (9, .int (nI 0)), (0, .ref (ad 0)), (1, .int (nI n)), (2, .int x), (3, .int y), (4, .int (nI (n - 1 - r))), (5, .int (nI t))]) hx hb d_O_greatest_203 hl (k := 9) rfl (nI_1 q) (by decide) rfl (fun ls hl => ?_)
                                    refine lv_goto (tgt := 73) hx hb d_O_greatest_206 (by decide) ?_
                                    exact ih73 (q + 1) (by omega) (hq) _ _ hP hD hS ls (lv_sub hl [4, 5, 6, 7, 8, 9, 1, 0] rfl)
                                  · exact absurd (m1_leN (Nat.lt_of_le_of_lt (rwG_le (fun z => gO_le hwb r z) (fun q v h => hwb _ q v h) t q) (by omega))) hc
                                · exact absurd c8 (by decide)
                              · refine lv_aload_n hx hb d_O_greatest_109 rfl (lv_at hl 0 rfl) ?_
                                refine lv_iload hx hb d_O_greatest_110 (lv_at hl 7 rfl) ?_
                                refine lv_aload_n hx hb d_O_greatest_112 rfl (lv_at hl 0 rfl) ?_
                                refine fv_get (ci := 7) (v := .ref (ad 22)) (C := R_O) (T := F_O) (N := 36) hx hb hts (by decide +kernel) hown hK hP 0 0 rfl rfl rfl 34 (by decide) (hts (.fieldLink R_O 75 "PartShelvesModel" "order" "[I") (by decide +kernel)) (fun _ h9 => h9) rfl d_O_greatest_113 ?_
                                refine lv_iload hx hb d_O_greatest_116 (lv_at hl 4 rfl) ?_
                                refine fa_ialdN hx hb hK hP 0 22 0 rfl rfl rfl (by omega) (by decide) d_O_greatest_118 ?_
                                refine r_calli (W.runV (As := [.int (nI q), .int (nI (od (n - 1 - r)))]) (rest := []) ⟨hx, hb, hml, hown, hts⟩ (c_O_isPair l D kC ad td rn pn an jn tn bm fw gp ga bp fc fj rA rC ft kd aG sR sT wh dY pd cN mN sv nd wr tl lt lT lD gv gn od (brP w pn n br r t) q (od (n - 1 - r)) (by omega) (hod _) (han) (hsT) (hdY) (htd) (hrn) (hrA) (haG) (hkd) (hpd) (hcN) (hrC) (hwh)) (cwV 2 hts g_O_greatest_isPair rfl rfl rfl (by decide +kernel) ⟨Nat.le_of_ble_eq_true rfl, Nat.le_of_ble_eq_true rfl⟩) (r_preV (f_recv (ci := 7) (q0 := 0) hK hP 0 rfl rfl rfl) hK hP) rfl rfl hl.1 rfl (lv_room (Nat.le_of_ble_eq_true rfl)) d_O_greatest_119 ⟨Nat.le_of_ble_eq_true rfl, Nat.le_of_ble_eq_true rfl⟩) ?_
                                refine lv_if_eq (tgt := 129) hx hb d_O_greatest_122 (by decide) (fun hpr => ?_) (fun hpr => ?_)
                                · refine lv_iconst (v := nI 0) hx hb d_O_greatest_129 (by decide) ?_
                                  refine lv_istore (lv' := [(9, .int (nI 0)), (0, .ref (ad 0)), (1, .int (nI n)), (2, .int x), (3, .int y), (4, .int (nI (n - 1 - r))), (5, .int (nI t)), (6, .long (lN (rwG (w (n - 1 - r)) (gO w pn n r) t q))), (8, .int (nI q))]) hx hb d_O_greatest_130 hl (by decide) rfl (fun ls hl => ?_)
                                  refine lv_iload hx hb d_O_greatest_132 (lv_at hl 0 rfl) ?_
                                  refine nv_if_eq (tgt := 181) hx hb d_O_greatest_134 (by decide) (by decide) (fun c10 => ?_) (fun c10 => ?_)
                                  · refine lv_ldc2 (v := (-1)) hx hb hown (hts (.constantLong R_O 115 (-1)) (by decide +kernel)) d_O_greatest_181 ?_
                                    refine lv_lstore (lv' := [(10, .long (-1)), (9, .int (nI 0)), (0, .ref (ad 0)), (1, .int (nI n)), (2, .int x), (3, .int y), (4, .int (nI (n - 1 - r))), (5, .int (nI t)), (6, .long (lN (rwG (w (n - 1 - r)) (gO w pn n r) t q))), (8, .int (nI q))]) hx hb d_O_greatest_184 hl (by decide) rfl (fun ls hl => ?_)
                                    refine lv_lload hx hb d_O_greatest_186 (lv_at hl 0 rfl) ?_
                                    refine lv_lload hx hb d_O_greatest_188 (lv_at hl 8 rfl) ?_
                                    refine lc_le (tgt := 199) hx hb d_O_greatest_190 d_O_greatest_191 (by decide) (fun hc => ?_) (fun hc => ?_)
                                    · refine lv_lload hx hb d_O_greatest_199 (lv_at hl 8 rfl) ?_
                                      refine lv_lstore (lv' := [(6, .long (lN (rwG (w (n - 1 - r)) (gO w pn n r) t q))), (10, .long (-1)), (9, .int (nI 0)), (0, .ref (ad 0)), (1, .int (nI n)), (2, .int x), (3, .int y), (4, .int (nI (n - 1 - r))), (5, .int (nI t)), (8, .int (nI q))]) hx hb d_O_greatest_201 hl (by decide) rfl (fun ls hl => ?_)
                                      have el11 : lN (rwG (w (n - 1 - r)) (gO w pn n r) t q) = lN (rwG (w (n - 1 - r)) (gO w pn n r) t (q + 1)) := congrArg lN (by simp only [rwG]; first | (rw [if_neg (fun z => by first | exact z.1 hx0 | exact bI_0.mp hpr z.2)] at hwq; rw [hwq]) | (split; exact (if_neg hbit).symm; rfl))
                                      have hl : lv_has ls 12 [(6, .long (lN (rwG (w (n - 1 - r)) (gO w pn n r) t (q + 1)))), (10, .long (-1)), (9, .int (nI 0)), (0, .ref (ad 0)), (1, .int (nI n)), (2, .int x), (3, .int y), (4, .int (nI (n - 1 - r))), (5, .int (nI t)), (8, .int (nI q))] := by rw [← el11]; exact hl
                                      refine lv_iinc (v := nI (q + 1)) (lv' := [(8, .int (nI (q + 1))), (6, .long (lN (rwG (w (n - 1 - r)) (gO w pn n r) t (q + 1)))), (10, .long (-1)), (9, .int (nI 0)), (0, .ref (ad 0)), (1, .int (nI n)), (2, .int x), (3, .int y), (4, .int (nI (n - 1 - r))), (5, .int (nI t))]) hx hb d_O_greatest_203 hl (k := 9) rfl (nI_1 q) (by decide) rfl (fun ls hl => ?_)
                                      refine lv_goto (tgt := 73) hx hb d_O_greatest_206 (by decide) ?_
                                      exact ih73 (q + 1) (by omega) (hq) _ _ hP hD hS ls (lv_sub hl [4, 5, 6, 7, 8, 9, 1, 0] rfl)
                                    · exact absurd (m1_leN (Nat.lt_of_le_of_lt (rwG_le (fun z => gO_le hwb r z) (fun q v h => hwb _ q v h) t q) (by omega))) hc
                                  · exact absurd c10 (by decide)
                                · have hpr := bI_n0.mp hpr
                                  rw [if_pos ⟨hx0, hpr⟩] at hwq
                                  refine lv_iconst (v := nI 1) hx hb d_O_greatest_125 (by decide) ?_
                                  refine lv_goto (tgt := 130) hx hb d_O_greatest_126 (by decide) ?_
                                  refine lv_istore (lv' := [(9, .int (nI 1)), (0, .ref (ad 0)), (1, .int (nI n)), (2, .int x), (3, .int y), (4, .int (nI (n - 1 - r))), (5, .int (nI t)), (6, .long (lN (rwG (w (n - 1 - r)) (gO w pn n r) t q))), (8, .int (nI q))]) hx hb d_O_greatest_130 hl (by decide) rfl (fun ls hl => ?_)
                                  refine lv_iload hx hb d_O_greatest_132 (lv_at hl 0 rfl) ?_
                                  refine nv_if_eq (tgt := 181) hx hb d_O_greatest_134 (by decide) (by decide) (fun c12 => ?_) (fun c12 => ?_)
                                  · exact absurd c12 (by decide)
                                  · refine lv_aload_n hx hb d_O_greatest_137 rfl (lv_at hl 1 rfl) ?_
                                    refine fv_get (ci := 7) (v := .ref (ad 11)) (C := R_O) (T := F_O) (N := 36) hx hb hts (by decide +kernel) hown hK hP 0 0 rfl rfl rfl 14 (by decide) (hts (.fieldLink R_O 42 "PartShelvesModel" "cents" "[J") (by decide +kernel)) (fun _ h9 => h9) rfl d_O_greatest_138 ?_
                                    refine lv_aload_n hx hb d_O_greatest_141 rfl (lv_at hl 1 rfl) ?_
                                    refine fv_get (ci := 7) (v := .ref (ad 22)) (C := R_O) (T := F_O) (N := 36) hx hb hts (by decide +kernel) hown hK hP 0 0 rfl rfl rfl 34 (by decide) (hts (.fieldLink R_O 75 "PartShelvesModel" "order" "[I") (by decide +kernel)) (fun _ h9 => h9) rfl d_O_greatest_142 ?_
                                    refine lv_iload hx hb d_O_greatest_145 (lv_at hl 5 rfl) ?_
                                    refine fa_ialdN hx hb hK hP 0 22 0 rfl rfl rfl (by omega) (by decide) d_O_greatest_147 ?_
                                    refine fa_laldN hx hb hK hP 0 11 1 rfl rfl rfl (hod _) (by decide) d_O_greatest_148 ?_
                                    refine lv_aload_n hx hb d_O_greatest_149 rfl (lv_at hl 1 rfl) ?_
                                    refine lv_iload hx hb d_O_greatest_150 (lv_at hl 8 rfl) ?_
                                    refine r_calll (W.runV (As := [.int (nI q)]) (rest := [.long (lN (cN (od (n - 1 - r))))]) ⟨hx, hb, hml, hown, hts⟩ (c_O_prOf l D kC ad td rn pn an jn tn bm fw gp ga bp fc fj rA rC ft kd aG sR sT wh dY pd cN mN sv nd wr tl lt lT lD gv gn od (brP w pn n br r t) q (by omega) (hrn) (hrA) (haG)) (cwV 1 hts g_O_greatest_priceOf rfl rfl rfl (by decide +kernel) ⟨Nat.le_of_ble_eq_true rfl, Nat.le_of_ble_eq_true rfl⟩) (r_preV (f_recv (ci := 7) (q0 := 0) hK hP 0 rfl rfl rfl) hK hP) rfl rfl hl.1 rfl (lv_room (Nat.le_of_ble_eq_true rfl)) d_O_greatest_152 ⟨Nat.le_of_ble_eq_true rfl, Nat.le_of_ble_eq_true rfl⟩) ?_
                                    refine nv_lsub hx hb d_O_greatest_155 (hpr.2.2.2) ?_
                                    refine lv_aload_n hx hb d_O_greatest_156 rfl (lv_at hl 1 rfl) ?_
                                    refine fv_get (ci := 7) (v := .ref (ad 23)) (C := R_O) (T := F_O) (N := 36) hx hb hts (by decide +kernel) hown hK hP 0 0 rfl rfl rfl 35 (by decide) (hts (.fieldLink R_O 78 "PartShelvesModel" "brings" "[J") (by decide +kernel)) (fun _ h9 => h9) rfl d_O_greatest_157 ?_
                                    refine lv_sipush (v := nI 256) hx hb d_O_greatest_160 (by decide +kernel) ?_
                                    refine lv_iload hx hb d_O_greatest_163 (lv_at hl 5 rfl) ?_
                                    refine lv_iconst (v := nI 1) hx hb d_O_greatest_165 (by decide) ?_
                                    refine nv_iadd hx hb d_O_greatest_166 ?_
                                    refine nv_imul hx hb d_O_greatest_167 ?_
                                    refine lv_iload hx hb d_O_greatest_168 (lv_at hl 6 rfl) ?_
                                    refine lv_iconst (v := nI 1) hx hb d_O_greatest_170 (by decide) ?_
                                    refine lv_iload hx hb d_O_greatest_171 (lv_at hl 8 rfl) ?_
                                    refine lv_ishl hx hb d_O_greatest_173 ?_
                                    refine nv_topi (y := nI (2 ^ q)) (shl1 q (by omega)) ?_
                                    refine lv_ior hx hb d_O_greatest_174 ?_
                                    refine nv_topi (y := nI (t ||| 2 ^ q)) (nx_or _ _) ?_
                                    refine nv_iadd hx hb d_O_greatest_175 ?_
                                    refine fa_laldN hx hb hK hP 0 23 1 rfl rfl rfl (by have := or_lt' t ht q (by omega); omega) (by decide) d_O_greatest_176 ?_
                                    refine nv_topl (y := lN (gO w pn n r (t ||| 2 ^ q))) (congrArg lN (brP_up w pn n br r t _ (by omega) (or_lt' t ht q (by omega)) (by omega))) ?_
                                    refine nv_ladd hx hb d_O_greatest_177 ?_
                                    refine lv_goto (tgt := 184) hx hb d_O_greatest_178 (by decide) ?_
                                    refine lv_lstore (lv' := [(10, .long (lN (cN (od (n - 1 - r)) - (prM rA rC (aG q) rn) + gO w pn n r (t ||| 2 ^ q)))), (9, .int (nI 1)), (0, .ref (ad 0)), (1, .int (nI n)), (2, .int x), (3, .int y), (4, .int (nI (n - 1 - r))), (5, .int (nI t)), (6, .long (lN (rwG (w (n - 1 - r)) (gO w pn n r) t q))), (8, .int (nI q))]) hx hb d_O_greatest_184 hl (by decide) rfl (fun ls hl => ?_)
                                    refine lv_lload hx hb d_O_greatest_186 (lv_at hl 0 rfl) ?_
                                    refine lv_lload hx hb d_O_greatest_188 (lv_at hl 8 rfl) ?_
                                    refine lc_le (tgt := 199) hx hb d_O_greatest_190 d_O_greatest_191 (by decide) (fun hc => ?_) (fun hc => ?_)
                                    · refine lv_lload hx hb d_O_greatest_199 (lv_at hl 8 rfl) ?_
                                      refine lv_lstore (lv' := [(6, .long (lN (rwG (w (n - 1 - r)) (gO w pn n r) t q))), (10, .long (lN (cN (od (n - 1 - r)) - (prM rA rC (aG q) rn) + gO w pn n r (t ||| 2 ^ q)))), (9, .int (nI 1)), (0, .ref (ad 0)), (1, .int (nI n)), (2, .int x), (3, .int y), (4, .int (nI (n - 1 - r))), (5, .int (nI t)), (8, .int (nI q))]) hx hb d_O_greatest_201 hl (by decide) rfl (fun ls hl => ?_)
                                      have el13 : lN (rwG (w (n - 1 - r)) (gO w pn n r) t q) = lN (rwG (w (n - 1 - r)) (gO w pn n r) t (q + 1)) := congrArg lN (by simp only [rwG, hwq]; rw [if_pos hbit, Nat.max_eq_left ((pk_lLE (by have := hcN (od (n - 1 - r)); have := gO_le (pn := pn) (n := n) hwb r (t ||| 2 ^ q); omega) (Nat.lt_of_le_of_lt (rwG_le (fun z => gO_le hwb r z) (fun q v h => hwb _ q v h) t q) (by omega))).mp hc)])
                                      have hl : lv_has ls 12 [(6, .long (lN (rwG (w (n - 1 - r)) (gO w pn n r) t (q + 1)))), (10, .long (lN (cN (od (n - 1 - r)) - (prM rA rC (aG q) rn) + gO w pn n r (t ||| 2 ^ q)))), (9, .int (nI 1)), (0, .ref (ad 0)), (1, .int (nI n)), (2, .int x), (3, .int y), (4, .int (nI (n - 1 - r))), (5, .int (nI t)), (8, .int (nI q))] := by rw [← el13]; exact hl
                                      refine lv_iinc (v := nI (q + 1)) (lv' := [(8, .int (nI (q + 1))), (6, .long (lN (rwG (w (n - 1 - r)) (gO w pn n r) t (q + 1)))), (10, .long (lN (cN (od (n - 1 - r)) - (prM rA rC (aG q) rn) + gO w pn n r (t ||| 2 ^ q)))), (9, .int (nI 1)), (0, .ref (ad 0)), (1, .int (nI n)), (2, .int x), (3, .int y), (4, .int (nI (n - 1 - r))), (5, .int (nI t))]) hx hb d_O_greatest_203 hl (k := 9) rfl (nI_1 q) (by decide) rfl (fun ls hl => ?_)
                                      refine lv_goto (tgt := 73) hx hb d_O_greatest_206 (by decide) ?_
                                      exact ih73 (q + 1) (by omega) (hq) _ _ hP hD hS ls (lv_sub hl [4, 5, 6, 7, 8, 9, 1, 0] rfl)
                                    · refine lv_lload hx hb d_O_greatest_194 (lv_at hl 0 rfl) ?_
                                      refine lv_goto (tgt := 201) hx hb d_O_greatest_196 (by decide) ?_
                                      refine lv_lstore (lv' := [(6, .long (lN (cN (od (n - 1 - r)) - (prM rA rC (aG q) rn) + gO w pn n r (t ||| 2 ^ q)))), (10, .long (lN (cN (od (n - 1 - r)) - (prM rA rC (aG q) rn) + gO w pn n r (t ||| 2 ^ q)))), (9, .int (nI 1)), (0, .ref (ad 0)), (1, .int (nI n)), (2, .int x), (3, .int y), (4, .int (nI (n - 1 - r))), (5, .int (nI t)), (8, .int (nI q))]) hx hb d_O_greatest_201 hl (by decide) rfl (fun ls hl => ?_)
                                      have el14 : lN (cN (od (n - 1 - r)) - (prM rA rC (aG q) rn) + gO w pn n r (t ||| 2 ^ q)) = lN (rwG (w (n - 1 - r)) (gO w pn n r) t (q + 1)) := congrArg lN (by simp only [rwG, hwq]; rw [if_pos hbit, Nat.max_eq_right (Nat.le_of_lt (Nat.lt_of_not_le (fun z => hc ((pk_lLE (by have := hcN (od (n - 1 - r)); have := gO_le (pn := pn) (n := n) hwb r (t ||| 2 ^ q); omega) (Nat.lt_of_le_of_lt (rwG_le (fun z => gO_le hwb r z) (fun q v h => hwb _ q v h) t q) (by omega))).mpr z))))])
                                      have hl : lv_has ls 12 [(6, .long (lN (rwG (w (n - 1 - r)) (gO w pn n r) t (q + 1)))), (10, .long (lN (cN (od (n - 1 - r)) - (prM rA rC (aG q) rn) + gO w pn n r (t ||| 2 ^ q)))), (9, .int (nI 1)), (0, .ref (ad 0)), (1, .int (nI n)), (2, .int x), (3, .int y), (4, .int (nI (n - 1 - r))), (5, .int (nI t)), (8, .int (nI q))] := by rw [← el14]; exact hl
                                      refine lv_iinc (v := nI (q + 1)) (lv' := [(8, .int (nI (q + 1))), (6, .long (lN (rwG (w (n - 1 - r)) (gO w pn n r) t (q + 1)))), (10, .long (lN (cN (od (n - 1 - r)) - (prM rA rC (aG q) rn) + gO w pn n r (t ||| 2 ^ q)))), (9, .int (nI 1)), (0, .ref (ad 0)), (1, .int (nI n)), (2, .int x), (3, .int y), (4, .int (nI (n - 1 - r))), (5, .int (nI t))]) hx hb d_O_greatest_203 hl (k := 9) rfl (nI_1 q) (by decide) rfl (fun ls hl => ?_)
                                      refine lv_goto (tgt := 73) hx hb d_O_greatest_206 (by decide) ?_
                                      exact ih73 (q + 1) (by omega) (hq) _ _ hP hD hS ls (lv_sub hl [4, 5, 6, 7, 8, 9, 1, 0] rfl)
                    exact L73 _ 0 (Nat.lt_succ_self _) (Nat.zero_le _) _ _ hP hD hS ls (lv_sub hl [2, 3, 4, 5, 6, 7, 1, 0] rfl)
              have ew15 : (brF w pn n br r) = (brP w pn n br r 0) := (brP_0 w pn n br r).symm
              have hP : va_P D cls (fl [(wO kC ad td rn pn an jn tn bm fw gp ga bp fc fj rA rC ft kd aG sR sT wh dY pd cN mN sv nd wr tl lt lT lD gv gn od (brP w pn n br r 0))]) H := by rw [← ew15]; exact hP
              have hD : va_D A (fl [(wO kC ad td rn pn an jn tn bm fw gp ga bp fc fj rA rC ft kd aG sR sT wh dY pd cN mN sv nd wr tl lt lT lD gv gn od (brP w pn n br r 0))]) := by rw [← ew15]; exact hD
              exact L44 _ 0 (Nat.lt_succ_self _) (by decide) _ _ hP hD hS ls (lv_sub hl [1, 2, 3, 4, 5, 0] rfl)
        have ew16 : (brZ n br 256) = (brF w pn n br 0) := brF_0 w pn n br
        have hP : va_P D cls (fl [(wO kC ad td rn pn an jn tn bm fw gp ga bp fc fj rA rC ft kd aG sR sT wh dY pd cN mN sv nd wr tl lt lT lD gv gn od (brF w pn n br 0))]) H := by rw [← ew16]; exact hP
        have hD : va_D A (fl [(wO kC ad td rn pn an jn tn bm fw gp ga bp fc fj rA rC ft kd aG sR sT wh dY pd cN mN sv nd wr tl lt lT lD gv gn od (brF w pn n br 0))]) := by rw [← ew16]; exact hD
        exact L36 _ n 0 (Nat.lt_succ_self _) (rfl) _ _ hP hD hS ls (lv_sub hl [1, 2, 3, 4, 0] rfl)
      · refine lv_aload_n hx hb d_O_greatest_11 rfl (lv_at hl 0 rfl) ?_
        refine fv_get (ci := 7) (v := .ref (ad 23)) (C := R_O) (T := F_O) (N := 36) hx hb hts (by decide +kernel) hown hK hP 0 0 rfl rfl rfl 35 (by decide) (hts (.fieldLink R_O 78 "PartShelvesModel" "brings" "[J") (by decide +kernel)) (fun _ h9 => h9) rfl d_O_greatest_12 ?_
        refine lv_sipush (v := nI 256) hx hb d_O_greatest_15 (by decide +kernel) ?_
        refine lv_iload_n hx hb d_O_greatest_18 rfl (lv_at hl 1 rfl) ?_
        refine nv_imul hx hb d_O_greatest_19 ?_
        refine lv_iload hx hb d_O_greatest_20 (lv_at hl 4 rfl) ?_
        refine nv_iadd hx hb d_O_greatest_22 ?_
        refine lv_lconst (v := lN 0) hx hb d_O_greatest_23 (by decide) ?_
        refine fa_lastN hx hb hK hP hD hS 0 23 1 rfl rfl rfl (by omega) (by decide) d_O_greatest_24 (fun H locs hP hD hS => ?_)
        have hP : va_P D cls (fl [(wO kC ad td rn pn an jn tn bm fw gp ga bp fc fj rA rC ft kd aG sR sT wh dY pd cN mN sv nd wr tl lt lT lD gv gn od (updN (brZ n br t) (256 * n + t) 0))]) H := hP
        have hD : va_D A (fl [(wO kC ad td rn pn an jn tn bm fw gp ga bp fc fj rA rC ft kd aG sR sT wh dY pd cN mN sv nd wr tl lt lT lD gv gn od (updN (brZ n br t) (256 * n + t) 0))]) := hD
        refine lv_iinc (v := nI (t + 1)) (lv' := [(4, .int (nI (t + 1))), (0, .ref (ad 0)), (1, .int (nI n)), (2, .int x), (3, .int y)]) hx hb d_O_greatest_25 hl (k := 4) rfl (nI_1 t) (by decide) rfl (fun ls hl => ?_)
        refine lv_goto (tgt := 3) hx hb d_O_greatest_28 (by decide) ?_
        have ew17 : (updN (brZ n br t) (256 * n + t) 0) = (brZ n br (t + 1)) := brZ_s _ _ _
        have hP : va_P D cls (fl [(wO kC ad td rn pn an jn tn bm fw gp ga bp fc fj rA rC ft kd aG sR sT wh dY pd cN mN sv nd wr tl lt lT lD gv gn od (brZ n br (t + 1)))]) H := by rw [← ew17]; exact hP
        have hD : va_D A (fl [(wO kC ad td rn pn an jn tn bm fw gp ga bp fc fj rA rC ft kd aG sR sT wh dY pd cN mN sv nd wr tl lt lT lD gv gn od (brZ n br (t + 1)))]) := by rw [← ew17]; exact hD
        exact ih3 (t + 1) (by omega) (ht) _ _ hP hD hS ls (lv_sub hl [1, 2, 3, 4, 0] rfl)
  have ew18 : br = (brZ n br 0) := (brZ_0 _ _).symm
  have hP : va_P D cls (fl [(wO kC ad td rn pn an jn tn bm fw gp ga bp fc fj rA rC ft kd aG sR sT wh dY pd cN mN sv nd wr tl lt lT lD gv gn od (brZ n br 0))]) s.heap := by rw [← ew18]; exact hP
  have hD : va_D A (fl [(wO kC ad td rn pn an jn tn bm fw gp ga bp fc fj rA rC ft kd aG sR sT wh dY pd cN mN sv nd wr tl lt lT lD gv gn od (brZ n br 0))]) := by rw [← ew18]; exact hD
  exact L3 _ 0 (Nat.lt_succ_self _) (by decide) _ _ hP hD hS ls (lv_sub hl [1, 2, 3, 4, 0] rfl)
end
