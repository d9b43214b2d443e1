set_option maxHeartbeats 4000000 in
set_option maxRecDepth 100000 in
/-- the switch: every number of a call -/
theorem law_sw {p : Program} {l : Launch} {e : Env} {s : State} {m : MethodId} {below : List Frame} {meth : Method} {c : Code} {b L : Nat} {xs : Nat → Int32} {D : va_G} {kC : Nat → ClassId} {eD i cc sc : Nat} {cs : CS} {ms : MS} {H : Heap} {locs : List Loc} {ls : Array Slot} (h : LwH p s m meth c b L xs D kC eD i cc sc cs ms H locs ls) (kk : lwK p l e s m below meth c b D kC eD cc sc cs ms ls) : ∀ q : Nat, q < 32 → W p l e room_1 s m #[Value.ref b] below meth c H locs cc sc (lw_Z below #[Value.ref b] s) (F0 m 33 ls [.int (nI q)])
  | 0, _ => lv_tableIn (tgt := 148) (off := 115) h.C0.1 h.C0.2.1 d_law_33 (by decide) (by decide) (by decide) (by decide) (law_today h kk)
  | 1, _ => lv_tableIn (tgt := 171) (off := 138) h.C0.1 h.C0.2.1 d_law_33 (by decide) (by decide) (by decide) (by decide) (law_row h kk)
  | 2, _ => lv_tableIn (tgt := 234) (off := 201) h.C0.1 h.C0.2.1 d_law_33 (by decide) (by decide) (by decide) (by decide) (law_fits h kk)
  | 3, _ => lv_tableIn (tgt := 293) (off := 260) h.C0.1 h.C0.2.1 d_law_33 (by decide) (by decide) (by decide) (by decide) (law_part h kk)
  | 4, _ => lv_tableIn (tgt := 366) (off := 333) h.C0.1 h.C0.2.1 d_law_33 (by decide) (by decide) (by decide) (by decide) (law_price h kk)
  | 5, _ => lv_tableIn (tgt := 390) (off := 357) h.C0.1 h.C0.2.1 d_law_33 (by decide) (by decide) (by decide) (by decide) (law_state h kk)
  | 6, _ => lv_tableIn (tgt := 413) (off := 380) h.C0.1 h.C0.2.1 d_law_33 (by decide) (by decide) (by decide) (by decide) (law_ask h kk)
  | 7, _ => lv_tableIn (tgt := 516) (off := 483) h.C0.1 h.C0.2.1 d_law_33 (by decide) (by decide) (by decide) (by decide) (law_hold h kk)
  | 8, _ => lv_tableIn (tgt := 559) (off := 526) h.C0.1 h.C0.2.1 d_law_33 (by decide) (by decide) (by decide) (by decide) (law_match h kk)
  | 9, _ => lv_tableIn (tgt := 572) (off := 539) h.C0.1 h.C0.2.1 d_law_33 (by decide) (by decide) (by decide) (by decide) (law_of h kk)
  | 10, _ => lv_tableIn (tgt := 595) (off := 562) h.C0.1 h.C0.2.1 d_law_33 (by decide) (by decide) (by decide) (by decide) (law_worth h kk)
  | 11, _ => lv_tableIn (tgt := 609) (off := 576) h.C0.1 h.C0.2.1 d_law_33 (by decide) (by decide) (by decide) (by decide) (law_gain h kk)
  | 12, _ => lv_tableIn (tgt := 643) (off := 610) h.C0.1 h.C0.2.1 d_law_33 (by decide) (by decide) (by decide) (by decide) (law_serve h kk)
  | 13, _ => lv_tableIn (tgt := 676) (off := 643) h.C0.1 h.C0.2.1 d_law_33 (by decide) (by decide) (by decide) (by decide) (law_job h kk)
  | 14, _ => lv_tableIn (tgt := 689) (off := 656) h.C0.1 h.C0.2.1 d_law_33 (by decide) (by decide) (by decide) (by decide) (law_needs h kk)
  | 15, _ => lv_tableIn (tgt := 732) (off := 699) h.C0.1 h.C0.2.1 d_law_33 (by decide) (by decide) (by decide) (by decide) (law_plan h kk)
  | 16, _ => lv_tableIn (tgt := 745) (off := 712) h.C0.1 h.C0.2.1 d_law_33 (by decide) (by decide) (by decide) (by decide) (law_cost h kk)
  | 17, _ => lv_tableIn (tgt := 759) (off := 726) h.C0.1 h.C0.2.1 d_law_33 (by decide) (by decide) (by decide) (by decide) (law_does h kk)
  | 18, _ => lv_tableIn (tgt := 782) (off := 749) h.C0.1 h.C0.2.1 d_law_33 (by decide) (by decide) (by decide) (by decide) (law_warranty h kk)
  | 19, _ => lv_tableIn (tgt := 815) (off := 782) h.C0.1 h.C0.2.1 d_law_33 (by decide) (by decide) (by decide) (by decide) (law_returned h kk)
  | 20, _ => lv_tableIn (tgt := 838) (off := 805) h.C0.1 h.C0.2.1 d_law_33 (by decide) (by decide) (by decide) (by decide) (law_recall h kk)
  | 21, _ => lv_tableIn (tgt := 941) (off := 908) h.C0.1 h.C0.2.1 d_law_33 (by decide) (by decide) (by decide) (by decide) (law_recalled h kk)
  | 22, _ => lv_tableIn (tgt := 964) (off := 931) h.C0.1 h.C0.2.1 d_law_33 (by decide) (by decide) (by decide) (by decide) (law_lend h kk)
  | 23, _ => lv_tableIn (tgt := 1007) (off := 974) h.C0.1 h.C0.2.1 d_law_33 (by decide) (by decide) (by decide) (by decide) (law_back h kk)
  | 24, _ => lv_tableIn (tgt := 1030) (off := 997) h.C0.1 h.C0.2.1 d_law_33 (by decide) (by decide) (by decide) (by decide) (law_late h kk)
  | q + 25, hq => lv_tableOut (tgt := 1053) h.C0.1 h.C0.2.1 d_law_33 (Or.inr (by rw [nI_toInt (by omega)]; omega)) (by decide) (W.widen (k := cc + 3) (n := sc + 17) (by omega) (by omega) (kk cs ms H locs h.R rfl rfl h.hP h.hD h.hS))
set_option maxHeartbeats 4000000 in
set_option maxRecDepth 100000 in
/-- the law's loop -/
theorem law_loop {p : Program} {l : Launch} {e : Env} {s : State} {m : MethodId} {below : List Frame} {meth : Method} {c : Code} {b L : Nat} {xs : Nat → Int32} {D : va_G} {kC : Nat → ClassId} {eD : Nat} (hL : L ≤ 3072) (C0 : lw_At p s m meth c b L xs) (hK : va_K D cls (tyL kC) s) (hz : lzE eD (fun q : Nat => s.heap.size ≤ q) s s.heap) :
    ∀ (n j : Nat), 6 * j ≤ L → L < 6 * j + n → ∀ (cs : CS) (ms : MS) (H : Heap) (locs : List Loc) (ls : Array Slot), Rel cs ms → va_P D cls (fl (lawW kC eD cs ms)) H → va_D (fun q : Nat => s.heap.size ≤ q) (fl (lawW kC eD cs ms)) → va_S (fun q : Nat => s.heap.size ≤ q) s.heap H locs → lv_has ls 4 [(0, .ref b), (1, .ref (cs.ad 0)), (2, .ref (ms.ad 0)), (3, .int (nI (6 * j)))] → W p l e room_1 s m #[Value.ref b] below meth c H locs (100 + 3 * j) (4000 + 17 * j) (lw_Z below #[Value.ref b] s) (F0 m 18 ls []) := by
  obtain ⟨hx, hb, hr, hml, hown, hts, hX, hbl, hlocks, hgv⟩ := id C0
  have hbA : ¬ (fun q : Nat => s.heap.size ≤ q) b := Nat.not_le.mpr hbl
  intro n
  induction n with
  | zero => intro j h1 h2; exact absurd h2 (by omega)
  | succ n ih =>
    intro j hj hn cs ms H locs ls R hP hD hS hl
    refine lv_iload_n hx hb d_law_18 rfl (lv_at hl 3 rfl) ?_
    refine lv_aload_n hx hb d_law_19 rfl (lv_at hl 0 rfl) ?_
    refine va_slen hx hb hX hbl hbA hS d_law_20 ?_
    refine lv_bipush (v := nI 6) hx hb d_law_21 (by decide) ?_
    refine lv_isub hx hb d_law_23 ?_
    have hcmp : (nI L - nI 6).toInt = (L : Int) - 6 := pk_sub_toInt (by omega) (by decide)
    have hti : (nI (6 * j)).toInt = ((6 * j : Nat) : Int) := nI_toInt (by omega)
    refine lv_icmp_gt (tgt := 1059) hx hb d_law_24 (by decide) (fun c1 => ?_) (fun c1 => ?_)
    · refine lv_iconst (v := 1) hx hb d_law_1059 (by decide) ?_
      refine va_forget (fun q hq => hS.2.2 q hq) ?_
      refine W.widen (k := 600000) (n := 7302250) (by omega) (by omega) ?_
      exact lw_ret hx hb hr hlocks d_law_1060
    · have hi : 6 * j + 6 ≤ L := by
        rcases Nat.lt_or_ge L (6 * j + 6) with q | q
        · exact absurd (Int32.lt_iff_toInt_lt.mpr (by show (nI L - nI 6).toInt < _; rw [hcmp, hti]; omega)) c1
        · exact q
      refine lv_aload_n hx hb d_law_27 rfl (lv_at hl 0 rfl) ?_
      refine lv_iload_n hx hb d_law_28 rfl (lv_at hl 3 rfl) ?_
      refine va_sld hx hb hX hbl hbA hS (vp_in_nI (by omega) (by omega)) d_law_29 ?_
      refine lv_bipush (v := nI 31) hx hb d_law_30 (by decide) ?_
      refine lv_iand hx hb d_law_32 ?_
      obtain ⟨q, hq, eq⟩ := pk_andE (xs (nI (6 * j)).toNatClampNeg) (m := nI 31) 5 (by decide)
      refine nv_topi eq ?_
      refine law_sw ⟨C0, hK, hz, hL, hi, by show 100 + 3 * j + 3 ≤ 600000; omega, by show 4000 + 17 * j + 17 ≤ 7302250; omega, R, hP, hD, hS, hl⟩ ?_ q hq
      intro cs' ms' H' locs' R' e1 e2 hP hD hS
      refine lv_iinc (v := nI (6 * (j + 1))) (lv' := [(3, .int (nI (6 * (j + 1)))), (0, .ref b), (1, .ref (cs.ad 0)), (2, .ref (ms.ad 0))]) hx hb d_law_1053 hl (k := 3) rfl (by rw [show Int32.ofInt 6 = nI 6 from by decide, nI_add]; rfl) (by decide) rfl (fun ls hl => ?_)
      refine lv_goto (tgt := 18) hx hb d_law_1056 (by decide) ?_
      refine W.cs (cells' := 100 + 3 * (j + 1)) (slots' := 4000 + 17 * (j + 1)) (by omega) (by omega) ?_
      refine ih (j + 1) (by omega) (by omega) cs' ms' H' locs' ls R' hP hD hS ?_
      rw [e1, e2]
      exact lv_sub hl [1, 2, 3, 0] rfl
