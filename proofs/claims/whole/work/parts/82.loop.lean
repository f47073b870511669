/-! THE LAW'S LOOP -/
set_option maxHeartbeats 8000000 in
set_option maxRecDepth 100000 in
theorem law_loop {p : Program} {l : Launch} {e : Env} {s : State} {m : MethodId} {below : List Frame} {meth : Method} {c : Code} {b L : Nat} {xs : Nat → Int32} {ad : Nat → Nat} {D : va_G} {T : Nat → ClassId} (C : LCx p l s m c b L xs ad D T) (hr : meth.sig.returnType = ret) (hlocks : meth.locks = false) :
    ∀ (n i cl sl : Nat) (h : xH) (H : Heap) (locs : List Loc) (ls : Array Slot), L ≤ 6 * (i + n) + 5 → i ≤ 512 → cl + 2 * n ≤ 601024 → sl + 12 * n ≤ 7293034 → LG h → XP ad D T h H → va_S (fun q => s.heap.size ≤ q) s.heap H locs → lv_has ls 7 [(4, .int (nI (6 * i))), (0, .ref b), (1, .ref (ad 0)), (2, .ref (ad 60)), (3, .ref (ad 100))] → W p l e room_1 s m #[Value.ref b] below meth c H locs cl sl (lw_Z below #[Value.ref b] s) (F0 m 23 ls []) := by
  obtain ⟨hx, hb, hml, hown, hts, hX, hbl, hl9, hA, hK, hN, hL⟩ := id C
  have hbA : ¬ (fun q : Nat => s.heap.size ≤ q) b := Nat.not_le.mpr hbl
  intro n
  induction n with
  | zero =>
    intro i cl sl h H locs ls hn hi hc hs g hP hS hl
    refine lv_iload hx hb dL_law_23 (lv_at hl 0 rfl) ?_
    refine lv_aload_n hx hb dL_law_25 rfl (lv_at hl 1 rfl) ?_
    refine va_slen hx hb hX hbl hbA hS dL_law_26 ?_
    refine lv_bipush (v := 6) hx hb dL_law_27 (by decide) ?_
    refine lv_isub hx hb dL_law_29 ?_
    refine lv_icmp_gt (tgt := 1623) hx hb dL_law_30 (by decide) (fun _ => ?_) (fun cz => ?_)
    · refine lv_iconst (v := 1) hx hb dL_law_1623 (by decide) ?_
      refine va_forget (fun q hq => hS.2.2 q hq) ?_
      refine W.widen (k := 601024) (n := 7293034) (by omega) (by omega) ?_
      exact lw_ret hx hb hr hlocks dL_law_1624
    · exfalso
      apply cz
      have e1 := pk_sub_toInt (a := L) (b := 6) (by omega) (by omega)
      have e2 := nI_toInt (n := 6 * i) (by omega)
      rw [Int32.lt_iff_toInt_lt]
      show (nI L - nI 6).toInt < (nI (6 * i)).toInt
      rw [e1, e2]
      omega
  | succ n ih =>
    intro i cl sl h H locs ls hn hi hc hs g hP hS hl
    refine lv_iload hx hb dL_law_23 (lv_at hl 0 rfl) ?_
    refine lv_aload_n hx hb dL_law_25 rfl (lv_at hl 1 rfl) ?_
    refine va_slen hx hb hX hbl hbA hS dL_law_26 ?_
    refine lv_bipush (v := 6) hx hb dL_law_27 (by decide) ?_
    refine lv_isub hx hb dL_law_29 ?_
    refine lv_icmp_gt (tgt := 1623) hx hb dL_law_30 (by decide) (fun _ => ?_) (fun cz => ?_)
    · refine lv_iconst (v := 1) hx hb dL_law_1623 (by decide) ?_
      refine va_forget (fun q hq => hS.2.2 q hq) ?_
      refine W.widen (k := 601024) (n := 7293034) (by omega) (by omega) ?_
      exact lw_ret hx hb hr hlocks dL_law_1624
    · have hi6 : 6 * i + 6 ≤ L := by
        rcases Nat.lt_or_ge L (6 * i + 6) with q | q
        · exfalso
          apply cz
          have e1 := pk_sub_toInt (a := L) (b := 6) (by omega) (by omega)
          have e2 := nI_toInt (n := 6 * i) (by omega)
          rw [Int32.lt_iff_toInt_lt]
          show (nI L - nI 6).toInt < (nI (6 * i)).toInt
          rw [e1, e2]
          omega
        · exact q
      have kk : ∀ (h' : xH) (H' : Heap) (locs' : List Loc) (ls' : Array Slot), LG h' → XP ad D T h' H' → va_S (fun q => s.heap.size ≤ q) s.heap H' locs' → lv_has ls' 7 [(4, .int (nI (6 * i))), (0, .ref b), (1, .ref (ad 0)), (2, .ref (ad 60)), (3, .ref (ad 100))] → W p l e room_1 s m #[Value.ref b] below meth c H' locs' (cl + 2) (sl + 12) (lw_Z below #[Value.ref b] s) (F0 m 1617 ls' []) := by
        intro h' H' locs' ls' g' hP' hS' hl'
        refine lv_iinc (v := nI (6 * (i + 1))) (lv' := [(4, .int (nI (6 * (i + 1)))), (0, .ref b), (1, .ref (ad 0)), (2, .ref (ad 60)), (3, .ref (ad 100))]) hx hb dL_law_1617 hl' (k := 0) rfl (nI_add (6 * i) 6) (by decide) rfl (fun ls hl => ?_)
        refine lv_goto (tgt := 23) hx hb dL_law_1620 (by decide) ?_
        exact ih (i + 1) (cl + 2) (sl + 12) h' H' locs' ls (by omega) (by omega) (by omega) (by omega) g' hP' hS' hl
      refine lv_aload_n hx hb dL_law_33 rfl (lv_at hl 1 rfl) ?_
      refine lv_iload hx hb dL_law_34 (lv_at hl 0 rfl) ?_
      refine va_sld hx hb hX hbl hbA hS (vp_in_nI (by omega) (by omega)) dL_law_36 ?_
      refine lv_bipush (v := 31) hx hb dL_law_37 (by decide) ?_
      refine lv_iand hx hb dL_law_39 ?_
      refine lv_topi (fun y ey => ?_)
      obtain ⟨j, hj, ej⟩ := pk_andE (xs (nI (6 * i)).toNatClampNeg) (m := 31) 5 (by decide)
      have ey2 : y = nI j := ey.trans ej
      clear ey ej
      subst ey2
      have hc2 : cl + 2 ≤ 601024 := by omega
      have hs2 : sl + 12 ≤ 7293034 := by omega
      rcases Nat.lt_or_ge j 28 with q | q
      · rcases (show j = 0 ∨ j = 1 ∨ j = 2 ∨ j = 3 ∨ j = 4 ∨ j = 5 ∨ j = 6 ∨ j = 7 ∨ j = 8 ∨ j = 9 ∨ j = 10 ∨ j = 11 ∨ j = 12 ∨ j = 13 ∨ j = 14 ∨ j = 15 ∨ j = 16 ∨ j = 17 ∨ j = 18 ∨ j = 19 ∨ j = 20 ∨ j = 21 ∨ j = 22 ∨ j = 23 ∨ j = 24 ∨ j = 25 ∨ j = 26 ∨ j = 27 by omega) with rfl | rfl | rfl | rfl | rfl | rfl | rfl | rfl | rfl | rfl | rfl | rfl | rfl | rfl | rfl | rfl | rfl | rfl | rfl | rfl | rfl | rfl | rfl | rfl | rfl | rfl | rfl | rfl
        · exact lv_tableIn (off := 128) (tgt := 168) hx hb dL_law_40 (by decide +kernel) (by decide +kernel) (by decide +kernel) (by decide) (lk_0 C g hP hS hl hi6 hc2 hs2 kk)
        · exact lv_tableIn (off := 196) (tgt := 236) hx hb dL_law_40 (by decide +kernel) (by decide +kernel) (by decide +kernel) (by decide) (lk_1 C g hP hS hl hi6 hc2 hs2 kk)
        · exact lv_tableIn (off := 252) (tgt := 292) hx hb dL_law_40 (by decide +kernel) (by decide +kernel) (by decide +kernel) (by decide) (lk_2 C g hP hS hl hi6 hc2 hs2 kk)
        · exact lv_tableIn (off := 356) (tgt := 396) hx hb dL_law_40 (by decide +kernel) (by decide +kernel) (by decide +kernel) (by decide) (lk_3 C g hP hS hl hi6 hc2 hs2 kk)
        · exact lv_tableIn (off := 419) (tgt := 459) hx hb dL_law_40 (by decide +kernel) (by decide +kernel) (by decide +kernel) (by decide) (lk_4 C g hP hS hl hi6 hc2 hs2 kk)
        · exact lv_tableIn (off := 511) (tgt := 551) hx hb dL_law_40 (by decide +kernel) (by decide +kernel) (by decide +kernel) (by decide) (lk_5 C g hP hS hl hi6 hc2 hs2 kk)
        · exact lv_tableIn (off := 615) (tgt := 655) hx hb dL_law_40 (by decide +kernel) (by decide +kernel) (by decide +kernel) (by decide) (lk_6 C g hP hS hl hi6 hc2 hs2 kk)
        · exact lv_tableIn (off := 671) (tgt := 711) hx hb dL_law_40 (by decide +kernel) (by decide +kernel) (by decide +kernel) (by decide) (lk_7 C g hP hS hl hi6 hc2 hs2 kk)
        · exact lv_tableIn (off := 727) (tgt := 767) hx hb dL_law_40 (by decide +kernel) (by decide +kernel) (by decide +kernel) (by decide) (lk_8 C g hP hS hl hi6 hc2 hs2 kk)
        · exact lv_tableIn (off := 771) (tgt := 811) hx hb dL_law_40 (by decide +kernel) (by decide +kernel) (by decide +kernel) (by decide) (lk_9 C g hP hS hl hi6 hc2 hs2 kk)
        · exact lv_tableIn (off := 815) (tgt := 855) hx hb dL_law_40 (by decide +kernel) (by decide +kernel) (by decide +kernel) (by decide) (lk_10 C g hP hS hl hi6 hc2 hs2 kk)
        · exact lv_tableIn (off := 859) (tgt := 899) hx hb dL_law_40 (by decide +kernel) (by decide +kernel) (by decide +kernel) (by decide) (lk_11 C g hP hS hl hi6 hc2 hs2 kk)
        · exact lv_tableIn (off := 903) (tgt := 943) hx hb dL_law_40 (by decide +kernel) (by decide +kernel) (by decide +kernel) (by decide) (lk_12 C g hP hS hl hi6 hc2 hs2 kk)
        · exact lv_tableIn (off := 916) (tgt := 956) hx hb dL_law_40 (by decide +kernel) (by decide +kernel) (by decide +kernel) (by decide) (lk_13 C g hP hS hl hi6 hc2 hs2 kk)
        · exact lv_tableIn (off := 972) (tgt := 1012) hx hb dL_law_40 (by decide +kernel) (by decide +kernel) (by decide +kernel) (by decide) (lk_14 C g hP hS hl hi6 hc2 hs2 kk)
        · exact lv_tableIn (off := 1028) (tgt := 1068) hx hb dL_law_40 (by decide +kernel) (by decide +kernel) (by decide +kernel) (by decide) (lk_15 C g hP hS hl hi6 hc2 hs2 kk)
        · exact lv_tableIn (off := 1084) (tgt := 1124) hx hb dL_law_40 (by decide +kernel) (by decide +kernel) (by decide +kernel) (by decide) (lk_16 C g hP hS hl hi6 hc2 hs2 kk)
        · exact lv_tableIn (off := 1140) (tgt := 1180) hx hb dL_law_40 (by decide +kernel) (by decide +kernel) (by decide +kernel) (by decide) (lk_17 C g hP hS hl hi6 hc2 hs2 kk)
        · exact lv_tableIn (off := 1208) (tgt := 1248) hx hb dL_law_40 (by decide +kernel) (by decide +kernel) (by decide +kernel) (by decide) (lk_18 C g hP hS hl hi6 hc2 hs2 kk)
        · exact lv_tableIn (off := 1288) (tgt := 1328) hx hb dL_law_40 (by decide +kernel) (by decide +kernel) (by decide +kernel) (by decide) (lk_19 C g hP hS hl hi6 hc2 hs2 kk)
        · exact lv_tableIn (off := 1344) (tgt := 1384) hx hb dL_law_40 (by decide +kernel) (by decide +kernel) (by decide +kernel) (by decide) (lk_20 C g hP hS hl hi6 hc2 hs2 kk)
        · exact lv_tableIn (off := 1357) (tgt := 1397) hx hb dL_law_40 (by decide +kernel) (by decide +kernel) (by decide +kernel) (by decide) (lk_21 C g hP hS hl hi6 hc2 hs2 kk)
        · exact lv_tableIn (off := 1370) (tgt := 1410) hx hb dL_law_40 (by decide +kernel) (by decide +kernel) (by decide +kernel) (by decide) (lk_22 C g hP hS hl hi6 hc2 hs2 kk)
        · exact lv_tableIn (off := 1383) (tgt := 1423) hx hb dL_law_40 (by decide +kernel) (by decide +kernel) (by decide +kernel) (by decide) (lk_23 C g hP hS hl hi6 hc2 hs2 kk)
        · exact lv_tableIn (off := 1396) (tgt := 1436) hx hb dL_law_40 (by decide +kernel) (by decide +kernel) (by decide +kernel) (by decide) (lk_24 C g hP hS hl hi6 hc2 hs2 kk)
        · exact lv_tableIn (off := 1409) (tgt := 1449) hx hb dL_law_40 (by decide +kernel) (by decide +kernel) (by decide +kernel) (by decide) (lk_25 C g hP hS hl hi6 hc2 hs2 kk)
        · exact lv_tableIn (off := 1465) (tgt := 1505) hx hb dL_law_40 (by decide +kernel) (by decide +kernel) (by decide +kernel) (by decide) (lk_26 C g hP hS hl hi6 hc2 hs2 kk)
        · exact lv_tableIn (off := 1521) (tgt := 1561) hx hb dL_law_40 (by decide +kernel) (by decide +kernel) (by decide +kernel) (by decide) (lk_27 C g hP hS hl hi6 hc2 hs2 kk)
      · refine lv_tableOut (tgt := 1617) hx hb dL_law_40 (Or.inr ?_) (by decide) ?_
        · rw [nI_toInt (by omega)]; omega
        · refine W.widen (k := cl + 2) (n := sl + 12) (by omega) (by omega) ?_
          exact kk h H locs ls g hP hS hl
