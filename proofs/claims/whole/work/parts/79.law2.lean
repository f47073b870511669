/-! THE LAW, a call of each kind, II -/
set_option maxHeartbeats 4000000 in
set_option maxRecDepth 100000 in
theorem lk_14 {p : Program} {l : Launch} {e : Env} {s : State} {m : MethodId} {below : List Frame} {meth : Method} {c : Code} {b L : Nat} {xs : Nat → Int32} {ad : Nat → Nat} {D : va_G} {T : Nat → ClassId} {h : xH} {H : Heap} {locs : List Loc} {cl sl i : Nat} {ls : Array Slot} (C : LCx p l s m c b L xs ad D T) (g : LG h) (hP : XP ad D T h H) (hS : va_S (fun q => s.heap.size ≤ q) s.heap H locs) (hl : lv_has ls 7 [(4, .int (nI (6 * i))), (0, .ref b), (1, .ref (ad 0)), (2, .ref (ad 60)), (3, .ref (ad 100))]) (hi : 6 * i + 6 ≤ L) (hc : cl + 2 ≤ 601024) (hs : sl + 12 ≤ 7293034)
    (kk : ∀ (h' : xH) (H' : Heap) (locs' : List Loc) (ls' : Array Slot), LG h' → XP ad D T h' H' → va_S (fun q => s.heap.size ≤ q) s.heap H' locs' → lv_has ls' 7 [(4, .int (nI (6 * i))), (0, .ref b), (1, .ref (ad 0)), (2, .ref (ad 60)), (3, .ref (ad 100))] → W p l e room_1 s m #[Value.ref b] below meth c H' locs' (cl + 2) (sl + 12) (lw_Z below #[Value.ref b] s) (F0 m 1617 ls' [])) : W p l e room_1 s m #[Value.ref b] below meth c H locs cl sl (lw_Z below #[Value.ref b] s) (F0 m 1012 ls []) := by
  obtain ⟨hx, hb, hml, hown, hts, hX, hbl, hl9, hA, hK, hN, hL⟩ := C
  have hB0 := Nat.le_refl s.heap.size
  have hbA : ¬ (fun q : Nat => s.heap.size ≤ q) b := Nat.not_le.mpr hbl
  have hin1 : vp_in (nI (6 * i) + 1) L := xin_k hi hL 1 (by decide)
  have hJ : Ends3 (fun k b q => q 60 0 = k ∧ (k = 0 → q 100 0 = b) ∧ LG q) := fun k b q a1 a2 a3 => ⟨a1, a2, a3⟩
  refine lv_aload_n hx hb dL_law_1012 rfl (lv_at hl 2 rfl) ?_
  refine lv_aload_n hx hb dL_law_1013 rfl (lv_at hl 1 rfl) ?_
  refine lv_iload hx hb dL_law_1014 (lv_at hl 0 rfl) ?_
  refine lv_iconst (v := 1) hx hb dL_law_1016 (by decide) ?_
  refine lv_iadd hx hb dL_law_1017 ?_
  refine va_sld hx hb hX hbl hbA hS hin1 dL_law_1018 ?_
  refine lv_aload_n hx hb dL_law_1019 rfl (lv_at hl 4 rfl) ?_
  refine xg_calli (vx_runSW (As := [.ref (ad 0), .int (xs (nI (6 * i) + 1).toNatClampNeg), .ref (ad 100)]) (rest := []) ⟨hx, hb, hml, hown, hts⟩ (c_L_repeats l hl9 hA (xs (nI (6 * i) + 1).toNatClampNeg) (op_repeats g hJ)) (vx_cwSW 3 hts gL_law_L_repeats rfl rfl rfl (by decide +kernel) ⟨Nat.le_of_ble_eq_true rfl, Nat.le_of_ble_eq_true rfl⟩) (xg_preS hB0 hP hK hN hS) rfl rfl hl.1 rfl (lv_room (Nat.le_of_ble_eq_true rfl)) dL_law_1020 ⟨by show _ ≤ 601024; omega, by show _ ≤ 7293034; omega⟩) hS (fun k h1 H locs hw hP hS => ?_)
  refine lv_istore (lv' := [(5, .int k), (4, .int (nI (6 * i))), (0, .ref b), (1, .ref (ad 0)), (2, .ref (ad 60)), (3, .ref (ad 100))]) hx hb dL_law_1023 hl (by decide) rfl (fun ls hl => ?_)
  refine lv_aload_n hx hb dL_law_1025 rfl (lv_at hl 4 rfl) ?_
  refine lv_aload_n hx hb dL_law_1026 rfl (lv_at hl 2 rfl) ?_
  refine lv_iload hx hb dL_law_1027 (lv_at hl 1 rfl) ?_
  refine lv_iconst (v := 1) hx hb dL_law_1029 (by decide) ?_
  refine lv_iadd hx hb dL_law_1030 ?_
  refine va_sld hx hb hX hbl hbA hS hin1 dL_law_1031 ?_
  refine xg_calli (va_runV (As := [.int (xs (nI (6 * i) + 1).toNatClampNeg)]) (rest := []) ⟨hx, hb, hml, hown, hts⟩ (c_X6_repeats l hl9 hA (xs (nI (6 * i) + 1).toNatClampNeg) hw) (cwV 1 hts gL_law_X6_repeats rfl rfl rfl (by decide +kernel) ⟨Nat.le_of_ble_eq_true rfl, Nat.le_of_ble_eq_true rfl⟩) (xg_preV hB0 hP hK hN hS xs60 rfl) rfl rfl hl.1 rfl (lv_room (Nat.le_of_ble_eq_true rfl)) dL_law_1032 ⟨by show _ ≤ 601024; omega, by show _ ≤ 7293034; omega⟩) hS (fun bb h2 H locs hw hP hS => ?_)
  obtain ⟨e1, e2, g2⟩ := hw
  refine lv_istore (lv' := [(6, .int bb), (5, .int k), (4, .int (nI (6 * i))), (0, .ref b), (1, .ref (ad 0)), (2, .ref (ad 60)), (3, .ref (ad 100))]) hx hb dL_law_1035 hl (by decide) rfl (fun ls hl => ?_)
  refine lv_aload_n hx hb dL_law_1037 rfl (lv_at hl 5 rfl) ?_
  refine xg_calli (va_runV (As := []) (rest := []) ⟨hx, hb, hml, hown, hts⟩ (c_X6_thrown l hl9 hA (h := h2) (K := fun r q => r = h2 60 0 ∧ q = h2) ⟨rfl, rfl⟩) (cwV 0 hts gL_law_X6_thrown rfl rfl rfl (by decide +kernel) ⟨Nat.le_of_ble_eq_true rfl, Nat.le_of_ble_eq_true rfl⟩) (xg_preV hB0 hP hK hN hS xs60 rfl) rfl rfl hl.1 rfl (lv_room (Nat.le_of_ble_eq_true rfl)) dL_law_1038 ⟨by show _ ≤ 601024; omega, by show _ ≤ 7293034; omega⟩) hS (fun r3 h3 H locs hw3 hP hS => ?_)
  obtain ⟨rfl, eh3⟩ := hw3
  rw [eh3] at hP
  refine lv_iload hx hb dL_law_1041 (lv_at hl 1 rfl) ?_
  refine lv_icmp_eq (tgt := 1048) hx hb dL_law_1043 (by decide) (fun _ => ?_) (fun cz => absurd e1 cz)
  refine lv_iload hx hb dL_law_1048 (lv_at hl 1 rfl) ?_
  refine lv_if_ne (tgt := 1065) hx hb dL_law_1050 (by decide) (fun _ => ?_) (fun k0 => ?_)
  · refine lv_goto (tgt := 1617) hx hb dL_law_1065 (by decide) ?_
    refine W.widen (k := cl + 2) (n := sl + 12) (by omega) (by omega) ?_
    exact kk _ _ _ _ g2 hP hS (lv_sub hl [2, 3, 4, 5, 6] rfl)
  · refine lv_aload_n hx hb dL_law_1053 rfl (lv_at hl 6 rfl) ?_
    refine lv_iconst (v := 0) hx hb dL_law_1054 (by decide) ?_
    refine xg_lald hx hb hK hP xs100 xin01 dL_law_1055 ?_
    rw [x32_00]
    refine lv_iload hx hb dL_law_1056 (lv_at hl 0 rfl) ?_
    refine lv_i2l (v := bb.toInt64) hx hb dL_law_1058 rfl ?_
    refine xg_lcmpeq hx hb dL_law_1059 dL_law_1060 (tgt := 1065) (by decide) (fun _ => ?_) (fun cz => absurd (e2 k0) cz)
    refine lv_goto (tgt := 1617) hx hb dL_law_1065 (by decide) ?_
    refine W.widen (k := cl + 2) (n := sl + 12) (by omega) (by omega) ?_
    exact kk _ _ _ _ g2 hP hS (lv_sub hl [2, 3, 4, 5, 6] rfl)
set_option maxHeartbeats 4000000 in
set_option maxRecDepth 100000 in
theorem lk_15 {p : Program} {l : Launch} {e : Env} {s : State} {m : MethodId} {below : List Frame} {meth : Method} {c : Code} {b L : Nat} {xs : Nat → Int32} {ad : Nat → Nat} {D : va_G} {T : Nat → ClassId} {h : xH} {H : Heap} {locs : List Loc} {cl sl i : Nat} {ls : Array Slot} (C : LCx p l s m c b L xs ad D T) (g : LG h) (hP : XP ad D T h H) (hS : va_S (fun q => s.heap.size ≤ q) s.heap H locs) (hl : lv_has ls 7 [(4, .int (nI (6 * i))), (0, .ref b), (1, .ref (ad 0)), (2, .ref (ad 60)), (3, .ref (ad 100))]) (hi : 6 * i + 6 ≤ L) (hc : cl + 2 ≤ 601024) (hs : sl + 12 ≤ 7293034)
    (kk : ∀ (h' : xH) (H' : Heap) (locs' : List Loc) (ls' : Array Slot), LG h' → XP ad D T h' H' → va_S (fun q => s.heap.size ≤ q) s.heap H' locs' → lv_has ls' 7 [(4, .int (nI (6 * i))), (0, .ref b), (1, .ref (ad 0)), (2, .ref (ad 60)), (3, .ref (ad 100))] → W p l e room_1 s m #[Value.ref b] below meth c H' locs' (cl + 2) (sl + 12) (lw_Z below #[Value.ref b] s) (F0 m 1617 ls' [])) : W p l e room_1 s m #[Value.ref b] below meth c H locs cl sl (lw_Z below #[Value.ref b] s) (F0 m 1068 ls []) := by
  obtain ⟨hx, hb, hml, hown, hts, hX, hbl, hl9, hA, hK, hN, hL⟩ := C
  have hB0 := Nat.le_refl s.heap.size
  have hbA : ¬ (fun q : Nat => s.heap.size ≤ q) b := Nat.not_le.mpr hbl
  have hin1 : vp_in (nI (6 * i) + 1) L := xin_k hi hL 1 (by decide)
  have hJ : Ends3 (fun k b q => q 60 0 = k ∧ (k = 0 → q 100 0 = b) ∧ LG q) := fun k b q a1 a2 a3 => ⟨a1, a2, a3⟩
  refine lv_aload_n hx hb dL_law_1068 rfl (lv_at hl 2 rfl) ?_
  refine lv_aload_n hx hb dL_law_1069 rfl (lv_at hl 1 rfl) ?_
  refine lv_iload hx hb dL_law_1070 (lv_at hl 0 rfl) ?_
  refine lv_iconst (v := 1) hx hb dL_law_1072 (by decide) ?_
  refine lv_iadd hx hb dL_law_1073 ?_
  refine va_sld hx hb hX hbl hbA hS hin1 dL_law_1074 ?_
  refine lv_aload_n hx hb dL_law_1075 rfl (lv_at hl 4 rfl) ?_
  refine xg_calli (vx_runSW (As := [.ref (ad 0), .int (xs (nI (6 * i) + 1).toNatClampNeg), .ref (ad 100)]) (rest := []) ⟨hx, hb, hml, hown, hts⟩ (c_L_drops l hl9 hA (xs (nI (6 * i) + 1).toNatClampNeg) (op_drops g hJ)) (vx_cwSW 3 hts gL_law_L_drops rfl rfl rfl (by decide +kernel) ⟨Nat.le_of_ble_eq_true rfl, Nat.le_of_ble_eq_true rfl⟩) (xg_preS hB0 hP hK hN hS) rfl rfl hl.1 rfl (lv_room (Nat.le_of_ble_eq_true rfl)) dL_law_1076 ⟨by show _ ≤ 601024; omega, by show _ ≤ 7293034; omega⟩) hS (fun k h1 H locs hw hP hS => ?_)
  refine lv_istore (lv' := [(5, .int k), (4, .int (nI (6 * i))), (0, .ref b), (1, .ref (ad 0)), (2, .ref (ad 60)), (3, .ref (ad 100))]) hx hb dL_law_1079 hl (by decide) rfl (fun ls hl => ?_)
  refine lv_aload_n hx hb dL_law_1081 rfl (lv_at hl 4 rfl) ?_
  refine lv_aload_n hx hb dL_law_1082 rfl (lv_at hl 2 rfl) ?_
  refine lv_iload hx hb dL_law_1083 (lv_at hl 1 rfl) ?_
  refine lv_iconst (v := 1) hx hb dL_law_1085 (by decide) ?_
  refine lv_iadd hx hb dL_law_1086 ?_
  refine va_sld hx hb hX hbl hbA hS hin1 dL_law_1087 ?_
  refine xg_calli (va_runV (As := [.int (xs (nI (6 * i) + 1).toNatClampNeg)]) (rest := []) ⟨hx, hb, hml, hown, hts⟩ (c_X6_drops l hl9 hA (xs (nI (6 * i) + 1).toNatClampNeg) hw) (cwV 1 hts gL_law_X6_drops rfl rfl rfl (by decide +kernel) ⟨Nat.le_of_ble_eq_true rfl, Nat.le_of_ble_eq_true rfl⟩) (xg_preV hB0 hP hK hN hS xs60 rfl) rfl rfl hl.1 rfl (lv_room (Nat.le_of_ble_eq_true rfl)) dL_law_1088 ⟨by show _ ≤ 601024; omega, by show _ ≤ 7293034; omega⟩) hS (fun bb h2 H locs hw hP hS => ?_)
  obtain ⟨e1, e2, g2⟩ := hw
  refine lv_istore (lv' := [(6, .int bb), (5, .int k), (4, .int (nI (6 * i))), (0, .ref b), (1, .ref (ad 0)), (2, .ref (ad 60)), (3, .ref (ad 100))]) hx hb dL_law_1091 hl (by decide) rfl (fun ls hl => ?_)
  refine lv_aload_n hx hb dL_law_1093 rfl (lv_at hl 5 rfl) ?_
  refine xg_calli (va_runV (As := []) (rest := []) ⟨hx, hb, hml, hown, hts⟩ (c_X6_thrown l hl9 hA (h := h2) (K := fun r q => r = h2 60 0 ∧ q = h2) ⟨rfl, rfl⟩) (cwV 0 hts gL_law_X6_thrown rfl rfl rfl (by decide +kernel) ⟨Nat.le_of_ble_eq_true rfl, Nat.le_of_ble_eq_true rfl⟩) (xg_preV hB0 hP hK hN hS xs60 rfl) rfl rfl hl.1 rfl (lv_room (Nat.le_of_ble_eq_true rfl)) dL_law_1094 ⟨by show _ ≤ 601024; omega, by show _ ≤ 7293034; omega⟩) hS (fun r3 h3 H locs hw3 hP hS => ?_)
  obtain ⟨rfl, eh3⟩ := hw3
  rw [eh3] at hP
  refine lv_iload hx hb dL_law_1097 (lv_at hl 1 rfl) ?_
  refine lv_icmp_eq (tgt := 1104) hx hb dL_law_1099 (by decide) (fun _ => ?_) (fun cz => absurd e1 cz)
  refine lv_iload hx hb dL_law_1104 (lv_at hl 1 rfl) ?_
  refine lv_if_ne (tgt := 1121) hx hb dL_law_1106 (by decide) (fun _ => ?_) (fun k0 => ?_)
  · refine lv_goto (tgt := 1617) hx hb dL_law_1121 (by decide) ?_
    refine W.widen (k := cl + 2) (n := sl + 12) (by omega) (by omega) ?_
    exact kk _ _ _ _ g2 hP hS (lv_sub hl [2, 3, 4, 5, 6] rfl)
  · refine lv_aload_n hx hb dL_law_1109 rfl (lv_at hl 6 rfl) ?_
    refine lv_iconst (v := 0) hx hb dL_law_1110 (by decide) ?_
    refine xg_lald hx hb hK hP xs100 xin01 dL_law_1111 ?_
    rw [x32_00]
    refine lv_iload hx hb dL_law_1112 (lv_at hl 0 rfl) ?_
    refine lv_i2l (v := bb.toInt64) hx hb dL_law_1114 rfl ?_
    refine xg_lcmpeq hx hb dL_law_1115 dL_law_1116 (tgt := 1121) (by decide) (fun _ => ?_) (fun cz => absurd (e2 k0) cz)
    refine lv_goto (tgt := 1617) hx hb dL_law_1121 (by decide) ?_
    refine W.widen (k := cl + 2) (n := sl + 12) (by omega) (by omega) ?_
    exact kk _ _ _ _ g2 hP hS (lv_sub hl [2, 3, 4, 5, 6] rfl)
set_option maxHeartbeats 4000000 in
set_option maxRecDepth 100000 in
theorem lk_16 {p : Program} {l : Launch} {e : Env} {s : State} {m : MethodId} {below : List Frame} {meth : Method} {c : Code} {b L : Nat} {xs : Nat → Int32} {ad : Nat → Nat} {D : va_G} {T : Nat → ClassId} {h : xH} {H : Heap} {locs : List Loc} {cl sl i : Nat} {ls : Array Slot} (C : LCx p l s m c b L xs ad D T) (g : LG h) (hP : XP ad D T h H) (hS : va_S (fun q => s.heap.size ≤ q) s.heap H locs) (hl : lv_has ls 7 [(4, .int (nI (6 * i))), (0, .ref b), (1, .ref (ad 0)), (2, .ref (ad 60)), (3, .ref (ad 100))]) (hi : 6 * i + 6 ≤ L) (hc : cl + 2 ≤ 601024) (hs : sl + 12 ≤ 7293034)
    (kk : ∀ (h' : xH) (H' : Heap) (locs' : List Loc) (ls' : Array Slot), LG h' → XP ad D T h' H' → va_S (fun q => s.heap.size ≤ q) s.heap H' locs' → lv_has ls' 7 [(4, .int (nI (6 * i))), (0, .ref b), (1, .ref (ad 0)), (2, .ref (ad 60)), (3, .ref (ad 100))] → W p l e room_1 s m #[Value.ref b] below meth c H' locs' (cl + 2) (sl + 12) (lw_Z below #[Value.ref b] s) (F0 m 1617 ls' [])) : W p l e room_1 s m #[Value.ref b] below meth c H locs cl sl (lw_Z below #[Value.ref b] s) (F0 m 1124 ls []) := by
  obtain ⟨hx, hb, hml, hown, hts, hX, hbl, hl9, hA, hK, hN, hL⟩ := C
  have hB0 := Nat.le_refl s.heap.size
  have hbA : ¬ (fun q : Nat => s.heap.size ≤ q) b := Nat.not_le.mpr hbl
  have hin1 : vp_in (nI (6 * i) + 1) L := xin_k hi hL 1 (by decide)
  have hJ : Ends3 (fun k b q => q 60 0 = k ∧ (k = 0 → q 100 0 = b) ∧ LG q) := fun k b q a1 a2 a3 => ⟨a1, a2, a3⟩
  refine lv_aload_n hx hb dL_law_1124 rfl (lv_at hl 2 rfl) ?_
  refine lv_aload_n hx hb dL_law_1125 rfl (lv_at hl 1 rfl) ?_
  refine lv_iload hx hb dL_law_1126 (lv_at hl 0 rfl) ?_
  refine lv_iconst (v := 1) hx hb dL_law_1128 (by decide) ?_
  refine lv_iadd hx hb dL_law_1129 ?_
  refine va_sld hx hb hX hbl hbA hS hin1 dL_law_1130 ?_
  refine lv_aload_n hx hb dL_law_1131 rfl (lv_at hl 4 rfl) ?_
  refine xg_calli (vx_runSW (As := [.ref (ad 0), .int (xs (nI (6 * i) + 1).toNatClampNeg), .ref (ad 100)]) (rest := []) ⟨hx, hb, hml, hown, hts⟩ (c_L_size l hl9 hA (xs (nI (6 * i) + 1).toNatClampNeg) (op_size g hJ)) (vx_cwSW 3 hts gL_law_L_size rfl rfl rfl (by decide +kernel) ⟨Nat.le_of_ble_eq_true rfl, Nat.le_of_ble_eq_true rfl⟩) (xg_preS hB0 hP hK hN hS) rfl rfl hl.1 rfl (lv_room (Nat.le_of_ble_eq_true rfl)) dL_law_1132 ⟨by show _ ≤ 601024; omega, by show _ ≤ 7293034; omega⟩) hS (fun k h1 H locs hw hP hS => ?_)
  refine lv_istore (lv' := [(5, .int k), (4, .int (nI (6 * i))), (0, .ref b), (1, .ref (ad 0)), (2, .ref (ad 60)), (3, .ref (ad 100))]) hx hb dL_law_1135 hl (by decide) rfl (fun ls hl => ?_)
  refine lv_aload_n hx hb dL_law_1137 rfl (lv_at hl 4 rfl) ?_
  refine lv_aload_n hx hb dL_law_1138 rfl (lv_at hl 2 rfl) ?_
  refine lv_iload hx hb dL_law_1139 (lv_at hl 1 rfl) ?_
  refine lv_iconst (v := 1) hx hb dL_law_1141 (by decide) ?_
  refine lv_iadd hx hb dL_law_1142 ?_
  refine va_sld hx hb hX hbl hbA hS hin1 dL_law_1143 ?_
  refine xg_calli (va_runV (As := [.int (xs (nI (6 * i) + 1).toNatClampNeg)]) (rest := []) ⟨hx, hb, hml, hown, hts⟩ (c_X6_size l hl9 hA (xs (nI (6 * i) + 1).toNatClampNeg) hw) (cwV 1 hts gL_law_X6_size rfl rfl rfl (by decide +kernel) ⟨Nat.le_of_ble_eq_true rfl, Nat.le_of_ble_eq_true rfl⟩) (xg_preV hB0 hP hK hN hS xs60 rfl) rfl rfl hl.1 rfl (lv_room (Nat.le_of_ble_eq_true rfl)) dL_law_1144 ⟨by show _ ≤ 601024; omega, by show _ ≤ 7293034; omega⟩) hS (fun bb h2 H locs hw hP hS => ?_)
  obtain ⟨e1, e2, g2⟩ := hw
  refine lv_istore (lv' := [(6, .int bb), (5, .int k), (4, .int (nI (6 * i))), (0, .ref b), (1, .ref (ad 0)), (2, .ref (ad 60)), (3, .ref (ad 100))]) hx hb dL_law_1147 hl (by decide) rfl (fun ls hl => ?_)
  refine lv_aload_n hx hb dL_law_1149 rfl (lv_at hl 5 rfl) ?_
  refine xg_calli (va_runV (As := []) (rest := []) ⟨hx, hb, hml, hown, hts⟩ (c_X6_thrown l hl9 hA (h := h2) (K := fun r q => r = h2 60 0 ∧ q = h2) ⟨rfl, rfl⟩) (cwV 0 hts gL_law_X6_thrown rfl rfl rfl (by decide +kernel) ⟨Nat.le_of_ble_eq_true rfl, Nat.le_of_ble_eq_true rfl⟩) (xg_preV hB0 hP hK hN hS xs60 rfl) rfl rfl hl.1 rfl (lv_room (Nat.le_of_ble_eq_true rfl)) dL_law_1150 ⟨by show _ ≤ 601024; omega, by show _ ≤ 7293034; omega⟩) hS (fun r3 h3 H locs hw3 hP hS => ?_)
  obtain ⟨rfl, eh3⟩ := hw3
  rw [eh3] at hP
  refine lv_iload hx hb dL_law_1153 (lv_at hl 1 rfl) ?_
  refine lv_icmp_eq (tgt := 1160) hx hb dL_law_1155 (by decide) (fun _ => ?_) (fun cz => absurd e1 cz)
  refine lv_iload hx hb dL_law_1160 (lv_at hl 1 rfl) ?_
  refine lv_if_ne (tgt := 1177) hx hb dL_law_1162 (by decide) (fun _ => ?_) (fun k0 => ?_)
  · refine lv_goto (tgt := 1617) hx hb dL_law_1177 (by decide) ?_
    refine W.widen (k := cl + 2) (n := sl + 12) (by omega) (by omega) ?_
    exact kk _ _ _ _ g2 hP hS (lv_sub hl [2, 3, 4, 5, 6] rfl)
  · refine lv_aload_n hx hb dL_law_1165 rfl (lv_at hl 6 rfl) ?_
    refine lv_iconst (v := 0) hx hb dL_law_1166 (by decide) ?_
    refine xg_lald hx hb hK hP xs100 xin01 dL_law_1167 ?_
    rw [x32_00]
    refine lv_iload hx hb dL_law_1168 (lv_at hl 0 rfl) ?_
    refine lv_i2l (v := bb.toInt64) hx hb dL_law_1170 rfl ?_
    refine xg_lcmpeq hx hb dL_law_1171 dL_law_1172 (tgt := 1177) (by decide) (fun _ => ?_) (fun cz => absurd (e2 k0) cz)
    refine lv_goto (tgt := 1617) hx hb dL_law_1177 (by decide) ?_
    refine W.widen (k := cl + 2) (n := sl + 12) (by omega) (by omega) ?_
    exact kk _ _ _ _ g2 hP hS (lv_sub hl [2, 3, 4, 5, 6] rfl)
set_option maxHeartbeats 4000000 in
set_option maxRecDepth 100000 in
theorem lk_17 {p : Program} {l : Launch} {e : Env} {s : State} {m : MethodId} {below : List Frame} {meth : Method} {c : Code} {b L : Nat} {xs : Nat → Int32} {ad : Nat → Nat} {D : va_G} {T : Nat → ClassId} {h : xH} {H : Heap} {locs : List Loc} {cl sl i : Nat} {ls : Array Slot} (C : LCx p l s m c b L xs ad D T) (g : LG h) (hP : XP ad D T h H) (hS : va_S (fun q => s.heap.size ≤ q) s.heap H locs) (hl : lv_has ls 7 [(4, .int (nI (6 * i))), (0, .ref b), (1, .ref (ad 0)), (2, .ref (ad 60)), (3, .ref (ad 100))]) (hi : 6 * i + 6 ≤ L) (hc : cl + 2 ≤ 601024) (hs : sl + 12 ≤ 7293034)
    (kk : ∀ (h' : xH) (H' : Heap) (locs' : List Loc) (ls' : Array Slot), LG h' → XP ad D T h' H' → va_S (fun q => s.heap.size ≤ q) s.heap H' locs' → lv_has ls' 7 [(4, .int (nI (6 * i))), (0, .ref b), (1, .ref (ad 0)), (2, .ref (ad 60)), (3, .ref (ad 100))] → W p l e room_1 s m #[Value.ref b] below meth c H' locs' (cl + 2) (sl + 12) (lw_Z below #[Value.ref b] s) (F0 m 1617 ls' [])) : W p l e room_1 s m #[Value.ref b] below meth c H locs cl sl (lw_Z below #[Value.ref b] s) (F0 m 1180 ls []) := by
  obtain ⟨hx, hb, hml, hown, hts, hX, hbl, hl9, hA, hK, hN, hL⟩ := C
  have hB0 := Nat.le_refl s.heap.size
  have hbA : ¬ (fun q : Nat => s.heap.size ≤ q) b := Nat.not_le.mpr hbl
  have hin1 : vp_in (nI (6 * i) + 1) L := xin_k hi hL 1 (by decide)
  have hin2 : vp_in (nI (6 * i) + 2) L := xin_k hi hL 2 (by decide)
  have hJ : Ends3 (fun k b q => q 60 0 = k ∧ (k = 0 → q 100 0 = b) ∧ LG q) := fun k b q a1 a2 a3 => ⟨a1, a2, a3⟩
  refine lv_aload_n hx hb dL_law_1180 rfl (lv_at hl 2 rfl) ?_
  refine lv_aload_n hx hb dL_law_1181 rfl (lv_at hl 1 rfl) ?_
  refine lv_iload hx hb dL_law_1182 (lv_at hl 0 rfl) ?_
  refine lv_iconst (v := 1) hx hb dL_law_1184 (by decide) ?_
  refine lv_iadd hx hb dL_law_1185 ?_
  refine va_sld hx hb hX hbl hbA hS hin1 dL_law_1186 ?_
  refine lv_aload_n hx hb dL_law_1187 rfl (lv_at hl 1 rfl) ?_
  refine lv_iload hx hb dL_law_1188 (lv_at hl 0 rfl) ?_
  refine lv_iconst (v := 2) hx hb dL_law_1190 (by decide) ?_
  refine lv_iadd hx hb dL_law_1191 ?_
  refine va_sld hx hb hX hbl hbA hS hin2 dL_law_1192 ?_
  refine lv_aload_n hx hb dL_law_1193 rfl (lv_at hl 4 rfl) ?_
  refine xg_calli (vx_runSW (As := [.ref (ad 0), .int (xs (nI (6 * i) + 1).toNatClampNeg), .int (xs (nI (6 * i) + 2).toNatClampNeg), .ref (ad 100)]) (rest := []) ⟨hx, hb, hml, hown, hts⟩ (c_L_lines l hl9 hA (xs (nI (6 * i) + 1).toNatClampNeg) (xs (nI (6 * i) + 2).toNatClampNeg) (op_lines g hJ)) (vx_cwSW 4 hts gL_law_L_lines rfl rfl rfl (by decide +kernel) ⟨Nat.le_of_ble_eq_true rfl, Nat.le_of_ble_eq_true rfl⟩) (xg_preS hB0 hP hK hN hS) rfl rfl hl.1 rfl (lv_room (Nat.le_of_ble_eq_true rfl)) dL_law_1194 ⟨by show _ ≤ 601024; omega, by show _ ≤ 7293034; omega⟩) hS (fun k h1 H locs hw hP hS => ?_)
  refine lv_istore (lv' := [(5, .int k), (4, .int (nI (6 * i))), (0, .ref b), (1, .ref (ad 0)), (2, .ref (ad 60)), (3, .ref (ad 100))]) hx hb dL_law_1197 hl (by decide) rfl (fun ls hl => ?_)
  refine lv_aload_n hx hb dL_law_1199 rfl (lv_at hl 4 rfl) ?_
  refine lv_aload_n hx hb dL_law_1200 rfl (lv_at hl 2 rfl) ?_
  refine lv_iload hx hb dL_law_1201 (lv_at hl 1 rfl) ?_
  refine lv_iconst (v := 1) hx hb dL_law_1203 (by decide) ?_
  refine lv_iadd hx hb dL_law_1204 ?_
  refine va_sld hx hb hX hbl hbA hS hin1 dL_law_1205 ?_
  refine lv_aload_n hx hb dL_law_1206 rfl (lv_at hl 2 rfl) ?_
  refine lv_iload hx hb dL_law_1207 (lv_at hl 1 rfl) ?_
  refine lv_iconst (v := 2) hx hb dL_law_1209 (by decide) ?_
  refine lv_iadd hx hb dL_law_1210 ?_
  refine va_sld hx hb hX hbl hbA hS hin2 dL_law_1211 ?_
  refine xg_calli (va_runV (As := [.int (xs (nI (6 * i) + 1).toNatClampNeg), .int (xs (nI (6 * i) + 2).toNatClampNeg)]) (rest := []) ⟨hx, hb, hml, hown, hts⟩ (c_X6_lines l hl9 hA (xs (nI (6 * i) + 1).toNatClampNeg) (xs (nI (6 * i) + 2).toNatClampNeg) hw) (cwV 2 hts gL_law_X6_lines rfl rfl rfl (by decide +kernel) ⟨Nat.le_of_ble_eq_true rfl, Nat.le_of_ble_eq_true rfl⟩) (xg_preV hB0 hP hK hN hS xs60 rfl) rfl rfl hl.1 rfl (lv_room (Nat.le_of_ble_eq_true rfl)) dL_law_1212 ⟨by show _ ≤ 601024; omega, by show _ ≤ 7293034; omega⟩) hS (fun bb h2 H locs hw hP hS => ?_)
  obtain ⟨e1, e2, g2⟩ := hw
  refine lv_istore (lv' := [(6, .int bb), (5, .int k), (4, .int (nI (6 * i))), (0, .ref b), (1, .ref (ad 0)), (2, .ref (ad 60)), (3, .ref (ad 100))]) hx hb dL_law_1215 hl (by decide) rfl (fun ls hl => ?_)
  refine lv_aload_n hx hb dL_law_1217 rfl (lv_at hl 5 rfl) ?_
  refine xg_calli (va_runV (As := []) (rest := []) ⟨hx, hb, hml, hown, hts⟩ (c_X6_thrown l hl9 hA (h := h2) (K := fun r q => r = h2 60 0 ∧ q = h2) ⟨rfl, rfl⟩) (cwV 0 hts gL_law_X6_thrown rfl rfl rfl (by decide +kernel) ⟨Nat.le_of_ble_eq_true rfl, Nat.le_of_ble_eq_true rfl⟩) (xg_preV hB0 hP hK hN hS xs60 rfl) rfl rfl hl.1 rfl (lv_room (Nat.le_of_ble_eq_true rfl)) dL_law_1218 ⟨by show _ ≤ 601024; omega, by show _ ≤ 7293034; omega⟩) hS (fun r3 h3 H locs hw3 hP hS => ?_)
  obtain ⟨rfl, eh3⟩ := hw3
  rw [eh3] at hP
  refine lv_iload hx hb dL_law_1221 (lv_at hl 1 rfl) ?_
  refine lv_icmp_eq (tgt := 1228) hx hb dL_law_1223 (by decide) (fun _ => ?_) (fun cz => absurd e1 cz)
  refine lv_iload hx hb dL_law_1228 (lv_at hl 1 rfl) ?_
  refine lv_if_ne (tgt := 1245) hx hb dL_law_1230 (by decide) (fun _ => ?_) (fun k0 => ?_)
  · refine lv_goto (tgt := 1617) hx hb dL_law_1245 (by decide) ?_
    refine W.widen (k := cl + 2) (n := sl + 12) (by omega) (by omega) ?_
    exact kk _ _ _ _ g2 hP hS (lv_sub hl [2, 3, 4, 5, 6] rfl)
  · refine lv_aload_n hx hb dL_law_1233 rfl (lv_at hl 6 rfl) ?_
    refine lv_iconst (v := 0) hx hb dL_law_1234 (by decide) ?_
    refine xg_lald hx hb hK hP xs100 xin01 dL_law_1235 ?_
    rw [x32_00]
    refine lv_iload hx hb dL_law_1236 (lv_at hl 0 rfl) ?_
    refine lv_i2l (v := bb.toInt64) hx hb dL_law_1238 rfl ?_
    refine xg_lcmpeq hx hb dL_law_1239 dL_law_1240 (tgt := 1245) (by decide) (fun _ => ?_) (fun cz => absurd (e2 k0) cz)
    refine lv_goto (tgt := 1617) hx hb dL_law_1245 (by decide) ?_
    refine W.widen (k := cl + 2) (n := sl + 12) (by omega) (by omega) ?_
    exact kk _ _ _ _ g2 hP hS (lv_sub hl [2, 3, 4, 5, 6] rfl)
set_option maxHeartbeats 4000000 in
set_option maxRecDepth 100000 in
theorem lk_18 {p : Program} {l : Launch} {e : Env} {s : State} {m : MethodId} {below : List Frame} {meth : Method} {c : Code} {b L : Nat} {xs : Nat → Int32} {ad : Nat → Nat} {D : va_G} {T : Nat → ClassId} {h : xH} {H : Heap} {locs : List Loc} {cl sl i : Nat} {ls : Array Slot} (C : LCx p l s m c b L xs ad D T) (g : LG h) (hP : XP ad D T h H) (hS : va_S (fun q => s.heap.size ≤ q) s.heap H locs) (hl : lv_has ls 7 [(4, .int (nI (6 * i))), (0, .ref b), (1, .ref (ad 0)), (2, .ref (ad 60)), (3, .ref (ad 100))]) (hi : 6 * i + 6 ≤ L) (hc : cl + 2 ≤ 601024) (hs : sl + 12 ≤ 7293034)
    (kk : ∀ (h' : xH) (H' : Heap) (locs' : List Loc) (ls' : Array Slot), LG h' → XP ad D T h' H' → va_S (fun q => s.heap.size ≤ q) s.heap H' locs' → lv_has ls' 7 [(4, .int (nI (6 * i))), (0, .ref b), (1, .ref (ad 0)), (2, .ref (ad 60)), (3, .ref (ad 100))] → W p l e room_1 s m #[Value.ref b] below meth c H' locs' (cl + 2) (sl + 12) (lw_Z below #[Value.ref b] s) (F0 m 1617 ls' [])) : W p l e room_1 s m #[Value.ref b] below meth c H locs cl sl (lw_Z below #[Value.ref b] s) (F0 m 1248 ls []) := by
  obtain ⟨hx, hb, hml, hown, hts, hX, hbl, hl9, hA, hK, hN, hL⟩ := C
  have hB0 := Nat.le_refl s.heap.size
  have hbA : ¬ (fun q : Nat => s.heap.size ≤ q) b := Nat.not_le.mpr hbl
  have hin1 : vp_in (nI (6 * i) + 1) L := xin_k hi hL 1 (by decide)
  have hin2 : vp_in (nI (6 * i) + 2) L := xin_k hi hL 2 (by decide)
  have hin3 : vp_in (nI (6 * i) + 3) L := xin_k hi hL 3 (by decide)
  have hJ : Ends3 (fun k b q => q 60 0 = k ∧ (k = 0 → q 100 0 = b) ∧ LG q) := fun k b q a1 a2 a3 => ⟨a1, a2, a3⟩
  refine lv_aload_n hx hb dL_law_1248 rfl (lv_at hl 2 rfl) ?_
  refine lv_aload_n hx hb dL_law_1249 rfl (lv_at hl 1 rfl) ?_
  refine lv_iload hx hb dL_law_1250 (lv_at hl 0 rfl) ?_
  refine lv_iconst (v := 1) hx hb dL_law_1252 (by decide) ?_
  refine lv_iadd hx hb dL_law_1253 ?_
  refine va_sld hx hb hX hbl hbA hS hin1 dL_law_1254 ?_
  refine lv_aload_n hx hb dL_law_1255 rfl (lv_at hl 1 rfl) ?_
  refine lv_iload hx hb dL_law_1256 (lv_at hl 0 rfl) ?_
  refine lv_iconst (v := 2) hx hb dL_law_1258 (by decide) ?_
  refine lv_iadd hx hb dL_law_1259 ?_
  refine va_sld hx hb hX hbl hbA hS hin2 dL_law_1260 ?_
  refine lv_aload_n hx hb dL_law_1261 rfl (lv_at hl 1 rfl) ?_
  refine lv_iload hx hb dL_law_1262 (lv_at hl 0 rfl) ?_
  refine lv_iconst (v := 3) hx hb dL_law_1264 (by decide) ?_
  refine lv_iadd hx hb dL_law_1265 ?_
  refine va_sld hx hb hX hbl hbA hS hin3 dL_law_1266 ?_
  refine lv_aload_n hx hb dL_law_1267 rfl (lv_at hl 4 rfl) ?_
  refine xg_calli (vx_runSW (As := [.ref (ad 0), .int (xs (nI (6 * i) + 1).toNatClampNeg), .int (xs (nI (6 * i) + 2).toNatClampNeg), .int (xs (nI (6 * i) + 3).toNatClampNeg), .ref (ad 100)]) (rest := []) ⟨hx, hb, hml, hown, hts⟩ (c_L_line l hl9 hA (xs (nI (6 * i) + 1).toNatClampNeg) (xs (nI (6 * i) + 2).toNatClampNeg) (xs (nI (6 * i) + 3).toNatClampNeg) (op_line g hJ)) (vx_cwSW 5 hts gL_law_L_line rfl rfl rfl (by decide +kernel) ⟨Nat.le_of_ble_eq_true rfl, Nat.le_of_ble_eq_true rfl⟩) (xg_preS hB0 hP hK hN hS) rfl rfl hl.1 rfl (lv_room (Nat.le_of_ble_eq_true rfl)) dL_law_1268 ⟨by show _ ≤ 601024; omega, by show _ ≤ 7293034; omega⟩) hS (fun k h1 H locs hw hP hS => ?_)
  refine lv_istore (lv' := [(5, .int k), (4, .int (nI (6 * i))), (0, .ref b), (1, .ref (ad 0)), (2, .ref (ad 60)), (3, .ref (ad 100))]) hx hb dL_law_1271 hl (by decide) rfl (fun ls hl => ?_)
  refine lv_aload_n hx hb dL_law_1273 rfl (lv_at hl 4 rfl) ?_
  refine lv_aload_n hx hb dL_law_1274 rfl (lv_at hl 2 rfl) ?_
  refine lv_iload hx hb dL_law_1275 (lv_at hl 1 rfl) ?_
  refine lv_iconst (v := 1) hx hb dL_law_1277 (by decide) ?_
  refine lv_iadd hx hb dL_law_1278 ?_
  refine va_sld hx hb hX hbl hbA hS hin1 dL_law_1279 ?_
  refine lv_aload_n hx hb dL_law_1280 rfl (lv_at hl 2 rfl) ?_
  refine lv_iload hx hb dL_law_1281 (lv_at hl 1 rfl) ?_
  refine lv_iconst (v := 2) hx hb dL_law_1283 (by decide) ?_
  refine lv_iadd hx hb dL_law_1284 ?_
  refine va_sld hx hb hX hbl hbA hS hin2 dL_law_1285 ?_
  refine lv_aload_n hx hb dL_law_1286 rfl (lv_at hl 2 rfl) ?_
  refine lv_iload hx hb dL_law_1287 (lv_at hl 1 rfl) ?_
  refine lv_iconst (v := 3) hx hb dL_law_1289 (by decide) ?_
  refine lv_iadd hx hb dL_law_1290 ?_
  refine va_sld hx hb hX hbl hbA hS hin3 dL_law_1291 ?_
  refine xg_calli (va_runV (As := [.int (xs (nI (6 * i) + 1).toNatClampNeg), .int (xs (nI (6 * i) + 2).toNatClampNeg), .int (xs (nI (6 * i) + 3).toNatClampNeg)]) (rest := []) ⟨hx, hb, hml, hown, hts⟩ (c_X6_line l hl9 hA (xs (nI (6 * i) + 1).toNatClampNeg) (xs (nI (6 * i) + 2).toNatClampNeg) (xs (nI (6 * i) + 3).toNatClampNeg) hw) (cwV 3 hts gL_law_X6_line rfl rfl rfl (by decide +kernel) ⟨Nat.le_of_ble_eq_true rfl, Nat.le_of_ble_eq_true rfl⟩) (xg_preV hB0 hP hK hN hS xs60 rfl) rfl rfl hl.1 rfl (lv_room (Nat.le_of_ble_eq_true rfl)) dL_law_1292 ⟨by show _ ≤ 601024; omega, by show _ ≤ 7293034; omega⟩) hS (fun bb h2 H locs hw hP hS => ?_)
  obtain ⟨e1, e2, g2⟩ := hw
  refine lv_istore (lv' := [(6, .int bb), (5, .int k), (4, .int (nI (6 * i))), (0, .ref b), (1, .ref (ad 0)), (2, .ref (ad 60)), (3, .ref (ad 100))]) hx hb dL_law_1295 hl (by decide) rfl (fun ls hl => ?_)
  refine lv_aload_n hx hb dL_law_1297 rfl (lv_at hl 5 rfl) ?_
  refine xg_calli (va_runV (As := []) (rest := []) ⟨hx, hb, hml, hown, hts⟩ (c_X6_thrown l hl9 hA (h := h2) (K := fun r q => r = h2 60 0 ∧ q = h2) ⟨rfl, rfl⟩) (cwV 0 hts gL_law_X6_thrown rfl rfl rfl (by decide +kernel) ⟨Nat.le_of_ble_eq_true rfl, Nat.le_of_ble_eq_true rfl⟩) (xg_preV hB0 hP hK hN hS xs60 rfl) rfl rfl hl.1 rfl (lv_room (Nat.le_of_ble_eq_true rfl)) dL_law_1298 ⟨by show _ ≤ 601024; omega, by show _ ≤ 7293034; omega⟩) hS (fun r3 h3 H locs hw3 hP hS => ?_)
  obtain ⟨rfl, eh3⟩ := hw3
  rw [eh3] at hP
  refine lv_iload hx hb dL_law_1301 (lv_at hl 1 rfl) ?_
  refine lv_icmp_eq (tgt := 1308) hx hb dL_law_1303 (by decide) (fun _ => ?_) (fun cz => absurd e1 cz)
  refine lv_iload hx hb dL_law_1308 (lv_at hl 1 rfl) ?_
  refine lv_if_ne (tgt := 1325) hx hb dL_law_1310 (by decide) (fun _ => ?_) (fun k0 => ?_)
  · refine lv_goto (tgt := 1617) hx hb dL_law_1325 (by decide) ?_
    refine W.widen (k := cl + 2) (n := sl + 12) (by omega) (by omega) ?_
    exact kk _ _ _ _ g2 hP hS (lv_sub hl [2, 3, 4, 5, 6] rfl)
  · refine lv_aload_n hx hb dL_law_1313 rfl (lv_at hl 6 rfl) ?_
    refine lv_iconst (v := 0) hx hb dL_law_1314 (by decide) ?_
    refine xg_lald hx hb hK hP xs100 xin01 dL_law_1315 ?_
    rw [x32_00]
    refine lv_iload hx hb dL_law_1316 (lv_at hl 0 rfl) ?_
    refine lv_i2l (v := bb.toInt64) hx hb dL_law_1318 rfl ?_
    refine xg_lcmpeq hx hb dL_law_1319 dL_law_1320 (tgt := 1325) (by decide) (fun _ => ?_) (fun cz => absurd (e2 k0) cz)
    refine lv_goto (tgt := 1617) hx hb dL_law_1325 (by decide) ?_
    refine W.widen (k := cl + 2) (n := sl + 12) (by omega) (by omega) ?_
    exact kk _ _ _ _ g2 hP hS (lv_sub hl [2, 3, 4, 5, 6] rfl)
set_option maxHeartbeats 4000000 in
set_option maxRecDepth 100000 in
theorem lk_19 {p : Program} {l : Launch} {e : Env} {s : State} {m : MethodId} {below : List Frame} {meth : Method} {c : Code} {b L : Nat} {xs : Nat → Int32} {ad : Nat → Nat} {D : va_G} {T : Nat → ClassId} {h : xH} {H : Heap} {locs : List Loc} {cl sl i : Nat} {ls : Array Slot} (C : LCx p l s m c b L xs ad D T) (g : LG h) (hP : XP ad D T h H) (hS : va_S (fun q => s.heap.size ≤ q) s.heap H locs) (hl : lv_has ls 7 [(4, .int (nI (6 * i))), (0, .ref b), (1, .ref (ad 0)), (2, .ref (ad 60)), (3, .ref (ad 100))]) (hi : 6 * i + 6 ≤ L) (hc : cl + 2 ≤ 601024) (hs : sl + 12 ≤ 7293034)
    (kk : ∀ (h' : xH) (H' : Heap) (locs' : List Loc) (ls' : Array Slot), LG h' → XP ad D T h' H' → va_S (fun q => s.heap.size ≤ q) s.heap H' locs' → lv_has ls' 7 [(4, .int (nI (6 * i))), (0, .ref b), (1, .ref (ad 0)), (2, .ref (ad 60)), (3, .ref (ad 100))] → W p l e room_1 s m #[Value.ref b] below meth c H' locs' (cl + 2) (sl + 12) (lw_Z below #[Value.ref b] s) (F0 m 1617 ls' [])) : W p l e room_1 s m #[Value.ref b] below meth c H locs cl sl (lw_Z below #[Value.ref b] s) (F0 m 1328 ls []) := by
  obtain ⟨hx, hb, hml, hown, hts, hX, hbl, hl9, hA, hK, hN, hL⟩ := C
  have hB0 := Nat.le_refl s.heap.size
  have hbA : ¬ (fun q : Nat => s.heap.size ≤ q) b := Nat.not_le.mpr hbl
  have hin1 : vp_in (nI (6 * i) + 1) L := xin_k hi hL 1 (by decide)
  have hJ : Ends3 (fun k b q => q 60 0 = k ∧ (k = 0 → q 100 0 = b) ∧ LG q) := fun k b q a1 a2 a3 => ⟨a1, a2, a3⟩
  refine lv_aload_n hx hb dL_law_1328 rfl (lv_at hl 2 rfl) ?_
  refine lv_aload_n hx hb dL_law_1329 rfl (lv_at hl 1 rfl) ?_
  refine lv_iload hx hb dL_law_1330 (lv_at hl 0 rfl) ?_
  refine lv_iconst (v := 1) hx hb dL_law_1332 (by decide) ?_
  refine lv_iadd hx hb dL_law_1333 ?_
  refine va_sld hx hb hX hbl hbA hS hin1 dL_law_1334 ?_
  refine lv_aload_n hx hb dL_law_1335 rfl (lv_at hl 4 rfl) ?_
  refine xg_calli (vx_runSW (As := [.ref (ad 0), .int (xs (nI (6 * i) + 1).toNatClampNeg), .ref (ad 100)]) (rest := []) ⟨hx, hb, hml, hown, hts⟩ (c_L_generations l hl9 hA (xs (nI (6 * i) + 1).toNatClampNeg) (op_generations g hJ)) (vx_cwSW 3 hts gL_law_L_generations rfl rfl rfl (by decide +kernel) ⟨Nat.le_of_ble_eq_true rfl, Nat.le_of_ble_eq_true rfl⟩) (xg_preS hB0 hP hK hN hS) rfl rfl hl.1 rfl (lv_room (Nat.le_of_ble_eq_true rfl)) dL_law_1336 ⟨by show _ ≤ 601024; omega, by show _ ≤ 7293034; omega⟩) hS (fun k h1 H locs hw hP hS => ?_)
  refine lv_istore (lv' := [(5, .int k), (4, .int (nI (6 * i))), (0, .ref b), (1, .ref (ad 0)), (2, .ref (ad 60)), (3, .ref (ad 100))]) hx hb dL_law_1339 hl (by decide) rfl (fun ls hl => ?_)
  refine lv_aload_n hx hb dL_law_1341 rfl (lv_at hl 4 rfl) ?_
  refine lv_aload_n hx hb dL_law_1342 rfl (lv_at hl 2 rfl) ?_
  refine lv_iload hx hb dL_law_1343 (lv_at hl 1 rfl) ?_
  refine lv_iconst (v := 1) hx hb dL_law_1345 (by decide) ?_
  refine lv_iadd hx hb dL_law_1346 ?_
  refine va_sld hx hb hX hbl hbA hS hin1 dL_law_1347 ?_
  refine xg_calli (va_runV (As := [.int (xs (nI (6 * i) + 1).toNatClampNeg)]) (rest := []) ⟨hx, hb, hml, hown, hts⟩ (c_X6_generations l hl9 hA (xs (nI (6 * i) + 1).toNatClampNeg) hw) (cwV 1 hts gL_law_X6_generations rfl rfl rfl (by decide +kernel) ⟨Nat.le_of_ble_eq_true rfl, Nat.le_of_ble_eq_true rfl⟩) (xg_preV hB0 hP hK hN hS xs60 rfl) rfl rfl hl.1 rfl (lv_room (Nat.le_of_ble_eq_true rfl)) dL_law_1348 ⟨by show _ ≤ 601024; omega, by show _ ≤ 7293034; omega⟩) hS (fun bb h2 H locs hw hP hS => ?_)
  obtain ⟨e1, e2, g2⟩ := hw
  refine lv_istore (lv' := [(6, .int bb), (5, .int k), (4, .int (nI (6 * i))), (0, .ref b), (1, .ref (ad 0)), (2, .ref (ad 60)), (3, .ref (ad 100))]) hx hb dL_law_1351 hl (by decide) rfl (fun ls hl => ?_)
  refine lv_aload_n hx hb dL_law_1353 rfl (lv_at hl 5 rfl) ?_
  refine xg_calli (va_runV (As := []) (rest := []) ⟨hx, hb, hml, hown, hts⟩ (c_X6_thrown l hl9 hA (h := h2) (K := fun r q => r = h2 60 0 ∧ q = h2) ⟨rfl, rfl⟩) (cwV 0 hts gL_law_X6_thrown rfl rfl rfl (by decide +kernel) ⟨Nat.le_of_ble_eq_true rfl, Nat.le_of_ble_eq_true rfl⟩) (xg_preV hB0 hP hK hN hS xs60 rfl) rfl rfl hl.1 rfl (lv_room (Nat.le_of_ble_eq_true rfl)) dL_law_1354 ⟨by show _ ≤ 601024; omega, by show _ ≤ 7293034; omega⟩) hS (fun r3 h3 H locs hw3 hP hS => ?_)
  obtain ⟨rfl, eh3⟩ := hw3
  rw [eh3] at hP
  refine lv_iload hx hb dL_law_1357 (lv_at hl 1 rfl) ?_
  refine lv_icmp_eq (tgt := 1364) hx hb dL_law_1359 (by decide) (fun _ => ?_) (fun cz => absurd e1 cz)
  refine lv_iload hx hb dL_law_1364 (lv_at hl 1 rfl) ?_
  refine lv_if_ne (tgt := 1381) hx hb dL_law_1366 (by decide) (fun _ => ?_) (fun k0 => ?_)
  · refine lv_goto (tgt := 1617) hx hb dL_law_1381 (by decide) ?_
    refine W.widen (k := cl + 2) (n := sl + 12) (by omega) (by omega) ?_
    exact kk _ _ _ _ g2 hP hS (lv_sub hl [2, 3, 4, 5, 6] rfl)
  · refine lv_aload_n hx hb dL_law_1369 rfl (lv_at hl 6 rfl) ?_
    refine lv_iconst (v := 0) hx hb dL_law_1370 (by decide) ?_
    refine xg_lald hx hb hK hP xs100 xin01 dL_law_1371 ?_
    rw [x32_00]
    refine lv_iload hx hb dL_law_1372 (lv_at hl 0 rfl) ?_
    refine lv_i2l (v := bb.toInt64) hx hb dL_law_1374 rfl ?_
    refine xg_lcmpeq hx hb dL_law_1375 dL_law_1376 (tgt := 1381) (by decide) (fun _ => ?_) (fun cz => absurd (e2 k0) cz)
    refine lv_goto (tgt := 1617) hx hb dL_law_1381 (by decide) ?_
    refine W.widen (k := cl + 2) (n := sl + 12) (by omega) (by omega) ?_
    exact kk _ _ _ _ g2 hP hS (lv_sub hl [2, 3, 4, 5, 6] rfl)
set_option maxHeartbeats 4000000 in
set_option maxRecDepth 100000 in
theorem lk_20 {p : Program} {l : Launch} {e : Env} {s : State} {m : MethodId} {below : List Frame} {meth : Method} {c : Code} {b L : Nat} {xs : Nat → Int32} {ad : Nat → Nat} {D : va_G} {T : Nat → ClassId} {h : xH} {H : Heap} {locs : List Loc} {cl sl i : Nat} {ls : Array Slot} (C : LCx p l s m c b L xs ad D T) (g : LG h) (hP : XP ad D T h H) (hS : va_S (fun q => s.heap.size ≤ q) s.heap H locs) (hl : lv_has ls 7 [(4, .int (nI (6 * i))), (0, .ref b), (1, .ref (ad 0)), (2, .ref (ad 60)), (3, .ref (ad 100))]) (hi : 6 * i + 6 ≤ L) (hc : cl + 2 ≤ 601024) (hs : sl + 12 ≤ 7293034)
    (kk : ∀ (h' : xH) (H' : Heap) (locs' : List Loc) (ls' : Array Slot), LG h' → XP ad D T h' H' → va_S (fun q => s.heap.size ≤ q) s.heap H' locs' → lv_has ls' 7 [(4, .int (nI (6 * i))), (0, .ref b), (1, .ref (ad 0)), (2, .ref (ad 60)), (3, .ref (ad 100))] → W p l e room_1 s m #[Value.ref b] below meth c H' locs' (cl + 2) (sl + 12) (lw_Z below #[Value.ref b] s) (F0 m 1617 ls' [])) : W p l e room_1 s m #[Value.ref b] below meth c H locs cl sl (lw_Z below #[Value.ref b] s) (F0 m 1384 ls []) := by
  obtain ⟨hx, hb, hml, hown, hts, hX, hbl, hl9, hA, hK, hN, hL⟩ := C
  have hB0 := Nat.le_refl s.heap.size
  have hbA : ¬ (fun q : Nat => s.heap.size ≤ q) b := Nat.not_le.mpr hbl
  have hJ2 : Ends2 (fun a b q => a = b ∧ LG q) := fun a q gq => ⟨rfl, gq⟩
  refine lv_aload_n hx hb dL_law_1384 rfl (lv_at hl 2 rfl) ?_
  refine xg_calli (va_runV (As := []) (rest := []) ⟨hx, hb, hml, hown, hts⟩ (c_X5_queued l hl9 hA (op_queued g hJ2)) (cwV 0 hts gL_law_X5_queued rfl rfl rfl (by decide +kernel) ⟨Nat.le_of_ble_eq_true rfl, Nat.le_of_ble_eq_true rfl⟩) (xg_preV hB0 hP hK hN hS xs0 rfl) rfl rfl hl.1 rfl (lv_room (Nat.le_of_ble_eq_true rfl)) dL_law_1385 ⟨by show _ ≤ 601024; omega, by show _ ≤ 7293034; omega⟩) hS (fun k h1 H locs hw hP hS => ?_)
  refine lv_aload_n hx hb dL_law_1388 rfl (lv_at hl 3 rfl) ?_
  refine xg_calli (va_runV (As := []) (rest := [.int k]) ⟨hx, hb, hml, hown, hts⟩ (c_X6_queued l hl9 hA hw) (cwV 0 hts gL_law_X6_queued rfl rfl rfl (by decide +kernel) ⟨Nat.le_of_ble_eq_true rfl, Nat.le_of_ble_eq_true rfl⟩) (xg_preV hB0 hP hK hN hS xs60 rfl) rfl rfl hl.1 rfl (lv_room (Nat.le_of_ble_eq_true rfl)) dL_law_1389 ⟨by show _ ≤ 601024; omega, by show _ ≤ 7293034; omega⟩) hS (fun bb h2 H locs hw hP hS => ?_)
  obtain ⟨rfl, g2⟩ := hw
  refine lv_icmp_eq (tgt := 1617) hx hb dL_law_1392 (by decide) (fun _ => ?_) (fun cz => absurd rfl cz)
  refine W.widen (k := cl + 2) (n := sl + 12) (by omega) (by omega) ?_
  exact kk _ _ _ _ g2 hP hS (lv_sub hl [0, 1, 2, 3, 4] rfl)
set_option maxHeartbeats 4000000 in
set_option maxRecDepth 100000 in
theorem lk_21 {p : Program} {l : Launch} {e : Env} {s : State} {m : MethodId} {below : List Frame} {meth : Method} {c : Code} {b L : Nat} {xs : Nat → Int32} {ad : Nat → Nat} {D : va_G} {T : Nat → ClassId} {h : xH} {H : Heap} {locs : List Loc} {cl sl i : Nat} {ls : Array Slot} (C : LCx p l s m c b L xs ad D T) (g : LG h) (hP : XP ad D T h H) (hS : va_S (fun q => s.heap.size ≤ q) s.heap H locs) (hl : lv_has ls 7 [(4, .int (nI (6 * i))), (0, .ref b), (1, .ref (ad 0)), (2, .ref (ad 60)), (3, .ref (ad 100))]) (hi : 6 * i + 6 ≤ L) (hc : cl + 2 ≤ 601024) (hs : sl + 12 ≤ 7293034)
    (kk : ∀ (h' : xH) (H' : Heap) (locs' : List Loc) (ls' : Array Slot), LG h' → XP ad D T h' H' → va_S (fun q => s.heap.size ≤ q) s.heap H' locs' → lv_has ls' 7 [(4, .int (nI (6 * i))), (0, .ref b), (1, .ref (ad 0)), (2, .ref (ad 60)), (3, .ref (ad 100))] → W p l e room_1 s m #[Value.ref b] below meth c H' locs' (cl + 2) (sl + 12) (lw_Z below #[Value.ref b] s) (F0 m 1617 ls' [])) : W p l e room_1 s m #[Value.ref b] below meth c H locs cl sl (lw_Z below #[Value.ref b] s) (F0 m 1397 ls []) := by
  obtain ⟨hx, hb, hml, hown, hts, hX, hbl, hl9, hA, hK, hN, hL⟩ := C
  have hB0 := Nat.le_refl s.heap.size
  have hbA : ¬ (fun q : Nat => s.heap.size ≤ q) b := Nat.not_le.mpr hbl
  have hJ2 : Ends2 (fun a b q => a = b ∧ LG q) := fun a q gq => ⟨rfl, gq⟩
  refine lv_aload_n hx hb dL_law_1397 rfl (lv_at hl 2 rfl) ?_
  refine xg_calli (va_runV (As := []) (rest := []) ⟨hx, hb, hml, hown, hts⟩ (c_X5_inFlight l hl9 hA (op_inFlight g hJ2)) (cwV 0 hts gL_law_X5_inFlight rfl rfl rfl (by decide +kernel) ⟨Nat.le_of_ble_eq_true rfl, Nat.le_of_ble_eq_true rfl⟩) (xg_preV hB0 hP hK hN hS xs0 rfl) rfl rfl hl.1 rfl (lv_room (Nat.le_of_ble_eq_true rfl)) dL_law_1398 ⟨by show _ ≤ 601024; omega, by show _ ≤ 7293034; omega⟩) hS (fun k h1 H locs hw hP hS => ?_)
  refine lv_aload_n hx hb dL_law_1401 rfl (lv_at hl 3 rfl) ?_
  refine xg_calli (va_runV (As := []) (rest := [.int k]) ⟨hx, hb, hml, hown, hts⟩ (c_X6_inFlight l hl9 hA hw) (cwV 0 hts gL_law_X6_inFlight rfl rfl rfl (by decide +kernel) ⟨Nat.le_of_ble_eq_true rfl, Nat.le_of_ble_eq_true rfl⟩) (xg_preV hB0 hP hK hN hS xs60 rfl) rfl rfl hl.1 rfl (lv_room (Nat.le_of_ble_eq_true rfl)) dL_law_1402 ⟨by show _ ≤ 601024; omega, by show _ ≤ 7293034; omega⟩) hS (fun bb h2 H locs hw hP hS => ?_)
  obtain ⟨rfl, g2⟩ := hw
  refine lv_icmp_eq (tgt := 1617) hx hb dL_law_1405 (by decide) (fun _ => ?_) (fun cz => absurd rfl cz)
  refine W.widen (k := cl + 2) (n := sl + 12) (by omega) (by omega) ?_
  exact kk _ _ _ _ g2 hP hS (lv_sub hl [0, 1, 2, 3, 4] rfl)
set_option maxHeartbeats 4000000 in
set_option maxRecDepth 100000 in
theorem lk_22 {p : Program} {l : Launch} {e : Env} {s : State} {m : MethodId} {below : List Frame} {meth : Method} {c : Code} {b L : Nat} {xs : Nat → Int32} {ad : Nat → Nat} {D : va_G} {T : Nat → ClassId} {h : xH} {H : Heap} {locs : List Loc} {cl sl i : Nat} {ls : Array Slot} (C : LCx p l s m c b L xs ad D T) (g : LG h) (hP : XP ad D T h H) (hS : va_S (fun q => s.heap.size ≤ q) s.heap H locs) (hl : lv_has ls 7 [(4, .int (nI (6 * i))), (0, .ref b), (1, .ref (ad 0)), (2, .ref (ad 60)), (3, .ref (ad 100))]) (hi : 6 * i + 6 ≤ L) (hc : cl + 2 ≤ 601024) (hs : sl + 12 ≤ 7293034)
    (kk : ∀ (h' : xH) (H' : Heap) (locs' : List Loc) (ls' : Array Slot), LG h' → XP ad D T h' H' → va_S (fun q => s.heap.size ≤ q) s.heap H' locs' → lv_has ls' 7 [(4, .int (nI (6 * i))), (0, .ref b), (1, .ref (ad 0)), (2, .ref (ad 60)), (3, .ref (ad 100))] → W p l e room_1 s m #[Value.ref b] below meth c H' locs' (cl + 2) (sl + 12) (lw_Z below #[Value.ref b] s) (F0 m 1617 ls' [])) : W p l e room_1 s m #[Value.ref b] below meth c H locs cl sl (lw_Z below #[Value.ref b] s) (F0 m 1410 ls []) := by
  obtain ⟨hx, hb, hml, hown, hts, hX, hbl, hl9, hA, hK, hN, hL⟩ := C
  have hB0 := Nat.le_refl s.heap.size
  have hbA : ¬ (fun q : Nat => s.heap.size ≤ q) b := Nat.not_le.mpr hbl
  have hJ2 : Ends2 (fun a b q => a = b ∧ LG q) := fun a q gq => ⟨rfl, gq⟩
  refine lv_aload_n hx hb dL_law_1410 rfl (lv_at hl 2 rfl) ?_
  refine xg_calli (va_runV (As := []) (rest := []) ⟨hx, hb, hml, hown, hts⟩ (c_X5_acknowledged l hl9 hA (op_acknowledged g hJ2)) (cwV 0 hts gL_law_X5_acknowledged rfl rfl rfl (by decide +kernel) ⟨Nat.le_of_ble_eq_true rfl, Nat.le_of_ble_eq_true rfl⟩) (xg_preV hB0 hP hK hN hS xs0 rfl) rfl rfl hl.1 rfl (lv_room (Nat.le_of_ble_eq_true rfl)) dL_law_1411 ⟨by show _ ≤ 601024; omega, by show _ ≤ 7293034; omega⟩) hS (fun k h1 H locs hw hP hS => ?_)
  refine lv_aload_n hx hb dL_law_1414 rfl (lv_at hl 3 rfl) ?_
  refine xg_calli (va_runV (As := []) (rest := [.int k]) ⟨hx, hb, hml, hown, hts⟩ (c_X6_acknowledged l hl9 hA hw) (cwV 0 hts gL_law_X6_acknowledged rfl rfl rfl (by decide +kernel) ⟨Nat.le_of_ble_eq_true rfl, Nat.le_of_ble_eq_true rfl⟩) (xg_preV hB0 hP hK hN hS xs60 rfl) rfl rfl hl.1 rfl (lv_room (Nat.le_of_ble_eq_true rfl)) dL_law_1415 ⟨by show _ ≤ 601024; omega, by show _ ≤ 7293034; omega⟩) hS (fun bb h2 H locs hw hP hS => ?_)
  obtain ⟨rfl, g2⟩ := hw
  refine lv_icmp_eq (tgt := 1617) hx hb dL_law_1418 (by decide) (fun _ => ?_) (fun cz => absurd rfl cz)
  refine W.widen (k := cl + 2) (n := sl + 12) (by omega) (by omega) ?_
  exact kk _ _ _ _ g2 hP hS (lv_sub hl [0, 1, 2, 3, 4] rfl)
set_option maxHeartbeats 4000000 in
set_option maxRecDepth 100000 in
theorem lk_23 {p : Program} {l : Launch} {e : Env} {s : State} {m : MethodId} {below : List Frame} {meth : Method} {c : Code} {b L : Nat} {xs : Nat → Int32} {ad : Nat → Nat} {D : va_G} {T : Nat → ClassId} {h : xH} {H : Heap} {locs : List Loc} {cl sl i : Nat} {ls : Array Slot} (C : LCx p l s m c b L xs ad D T) (g : LG h) (hP : XP ad D T h H) (hS : va_S (fun q => s.heap.size ≤ q) s.heap H locs) (hl : lv_has ls 7 [(4, .int (nI (6 * i))), (0, .ref b), (1, .ref (ad 0)), (2, .ref (ad 60)), (3, .ref (ad 100))]) (hi : 6 * i + 6 ≤ L) (hc : cl + 2 ≤ 601024) (hs : sl + 12 ≤ 7293034)
    (kk : ∀ (h' : xH) (H' : Heap) (locs' : List Loc) (ls' : Array Slot), LG h' → XP ad D T h' H' → va_S (fun q => s.heap.size ≤ q) s.heap H' locs' → lv_has ls' 7 [(4, .int (nI (6 * i))), (0, .ref b), (1, .ref (ad 0)), (2, .ref (ad 60)), (3, .ref (ad 100))] → W p l e room_1 s m #[Value.ref b] below meth c H' locs' (cl + 2) (sl + 12) (lw_Z below #[Value.ref b] s) (F0 m 1617 ls' [])) : W p l e room_1 s m #[Value.ref b] below meth c H locs cl sl (lw_Z below #[Value.ref b] s) (F0 m 1423 ls []) := by
  obtain ⟨hx, hb, hml, hown, hts, hX, hbl, hl9, hA, hK, hN, hL⟩ := C
  have hB0 := Nat.le_refl s.heap.size
  have hbA : ¬ (fun q : Nat => s.heap.size ≤ q) b := Nat.not_le.mpr hbl
  have hJ2 : Ends2 (fun a b q => a = b ∧ LG q) := fun a q gq => ⟨rfl, gq⟩
  refine lv_aload_n hx hb dL_law_1423 rfl (lv_at hl 2 rfl) ?_
  refine xg_calli (va_runV (As := []) (rest := []) ⟨hx, hb, hml, hown, hts⟩ (c_X5_lost l hl9 hA (op_lost g hJ2)) (cwV 0 hts gL_law_X5_lost rfl rfl rfl (by decide +kernel) ⟨Nat.le_of_ble_eq_true rfl, Nat.le_of_ble_eq_true rfl⟩) (xg_preV hB0 hP hK hN hS xs0 rfl) rfl rfl hl.1 rfl (lv_room (Nat.le_of_ble_eq_true rfl)) dL_law_1424 ⟨by show _ ≤ 601024; omega, by show _ ≤ 7293034; omega⟩) hS (fun k h1 H locs hw hP hS => ?_)
  refine lv_aload_n hx hb dL_law_1427 rfl (lv_at hl 3 rfl) ?_
  refine xg_calli (va_runV (As := []) (rest := [.int k]) ⟨hx, hb, hml, hown, hts⟩ (c_X6_lost l hl9 hA hw) (cwV 0 hts gL_law_X6_lost rfl rfl rfl (by decide +kernel) ⟨Nat.le_of_ble_eq_true rfl, Nat.le_of_ble_eq_true rfl⟩) (xg_preV hB0 hP hK hN hS xs60 rfl) rfl rfl hl.1 rfl (lv_room (Nat.le_of_ble_eq_true rfl)) dL_law_1428 ⟨by show _ ≤ 601024; omega, by show _ ≤ 7293034; omega⟩) hS (fun bb h2 H locs hw hP hS => ?_)
  obtain ⟨rfl, g2⟩ := hw
  refine lv_icmp_eq (tgt := 1617) hx hb dL_law_1431 (by decide) (fun _ => ?_) (fun cz => absurd rfl cz)
  refine W.widen (k := cl + 2) (n := sl + 12) (by omega) (by omega) ?_
  exact kk _ _ _ _ g2 hP hS (lv_sub hl [0, 1, 2, 3, 4] rfl)
set_option maxHeartbeats 4000000 in
set_option maxRecDepth 100000 in
theorem lk_24 {p : Program} {l : Launch} {e : Env} {s : State} {m : MethodId} {below : List Frame} {meth : Method} {c : Code} {b L : Nat} {xs : Nat → Int32} {ad : Nat → Nat} {D : va_G} {T : Nat → ClassId} {h : xH} {H : Heap} {locs : List Loc} {cl sl i : Nat} {ls : Array Slot} (C : LCx p l s m c b L xs ad D T) (g : LG h) (hP : XP ad D T h H) (hS : va_S (fun q => s.heap.size ≤ q) s.heap H locs) (hl : lv_has ls 7 [(4, .int (nI (6 * i))), (0, .ref b), (1, .ref (ad 0)), (2, .ref (ad 60)), (3, .ref (ad 100))]) (hi : 6 * i + 6 ≤ L) (hc : cl + 2 ≤ 601024) (hs : sl + 12 ≤ 7293034)
    (kk : ∀ (h' : xH) (H' : Heap) (locs' : List Loc) (ls' : Array Slot), LG h' → XP ad D T h' H' → va_S (fun q => s.heap.size ≤ q) s.heap H' locs' → lv_has ls' 7 [(4, .int (nI (6 * i))), (0, .ref b), (1, .ref (ad 0)), (2, .ref (ad 60)), (3, .ref (ad 100))] → W p l e room_1 s m #[Value.ref b] below meth c H' locs' (cl + 2) (sl + 12) (lw_Z below #[Value.ref b] s) (F0 m 1617 ls' [])) : W p l e room_1 s m #[Value.ref b] below meth c H locs cl sl (lw_Z below #[Value.ref b] s) (F0 m 1436 ls []) := by
  obtain ⟨hx, hb, hml, hown, hts, hX, hbl, hl9, hA, hK, hN, hL⟩ := C
  have hB0 := Nat.le_refl s.heap.size
  have hbA : ¬ (fun q : Nat => s.heap.size ≤ q) b := Nat.not_le.mpr hbl
  have hJ2 : Ends2 (fun a b q => a = b ∧ LG q) := fun a q gq => ⟨rfl, gq⟩
  refine lv_aload_n hx hb dL_law_1436 rfl (lv_at hl 2 rfl) ?_
  refine xg_calli (va_runV (As := []) (rest := []) ⟨hx, hb, hml, hown, hts⟩ (c_X5_messages l hl9 hA (op_messages g hJ2)) (cwV 0 hts gL_law_X5_messages rfl rfl rfl (by decide +kernel) ⟨Nat.le_of_ble_eq_true rfl, Nat.le_of_ble_eq_true rfl⟩) (xg_preV hB0 hP hK hN hS xs0 rfl) rfl rfl hl.1 rfl (lv_room (Nat.le_of_ble_eq_true rfl)) dL_law_1437 ⟨by show _ ≤ 601024; omega, by show _ ≤ 7293034; omega⟩) hS (fun k h1 H locs hw hP hS => ?_)
  refine lv_aload_n hx hb dL_law_1440 rfl (lv_at hl 3 rfl) ?_
  refine xg_calli (va_runV (As := []) (rest := [.int k]) ⟨hx, hb, hml, hown, hts⟩ (c_X6_messages l hl9 hA hw) (cwV 0 hts gL_law_X6_messages rfl rfl rfl (by decide +kernel) ⟨Nat.le_of_ble_eq_true rfl, Nat.le_of_ble_eq_true rfl⟩) (xg_preV hB0 hP hK hN hS xs60 rfl) rfl rfl hl.1 rfl (lv_room (Nat.le_of_ble_eq_true rfl)) dL_law_1441 ⟨by show _ ≤ 601024; omega, by show _ ≤ 7293034; omega⟩) hS (fun bb h2 H locs hw hP hS => ?_)
  obtain ⟨rfl, g2⟩ := hw
  refine lv_icmp_eq (tgt := 1617) hx hb dL_law_1444 (by decide) (fun _ => ?_) (fun cz => absurd rfl cz)
  refine W.widen (k := cl + 2) (n := sl + 12) (by omega) (by omega) ?_
  exact kk _ _ _ _ g2 hP hS (lv_sub hl [0, 1, 2, 3, 4] rfl)
set_option maxHeartbeats 4000000 in
set_option maxRecDepth 100000 in
theorem lk_25 {p : Program} {l : Launch} {e : Env} {s : State} {m : MethodId} {below : List Frame} {meth : Method} {c : Code} {b L : Nat} {xs : Nat → Int32} {ad : Nat → Nat} {D : va_G} {T : Nat → ClassId} {h : xH} {H : Heap} {locs : List Loc} {cl sl i : Nat} {ls : Array Slot} (C : LCx p l s m c b L xs ad D T) (g : LG h) (hP : XP ad D T h H) (hS : va_S (fun q => s.heap.size ≤ q) s.heap H locs) (hl : lv_has ls 7 [(4, .int (nI (6 * i))), (0, .ref b), (1, .ref (ad 0)), (2, .ref (ad 60)), (3, .ref (ad 100))]) (hi : 6 * i + 6 ≤ L) (hc : cl + 2 ≤ 601024) (hs : sl + 12 ≤ 7293034)
    (kk : ∀ (h' : xH) (H' : Heap) (locs' : List Loc) (ls' : Array Slot), LG h' → XP ad D T h' H' → va_S (fun q => s.heap.size ≤ q) s.heap H' locs' → lv_has ls' 7 [(4, .int (nI (6 * i))), (0, .ref b), (1, .ref (ad 0)), (2, .ref (ad 60)), (3, .ref (ad 100))] → W p l e room_1 s m #[Value.ref b] below meth c H' locs' (cl + 2) (sl + 12) (lw_Z below #[Value.ref b] s) (F0 m 1617 ls' [])) : W p l e room_1 s m #[Value.ref b] below meth c H locs cl sl (lw_Z below #[Value.ref b] s) (F0 m 1449 ls []) := by
  obtain ⟨hx, hb, hml, hown, hts, hX, hbl, hl9, hA, hK, hN, hL⟩ := C
  have hB0 := Nat.le_refl s.heap.size
  have hbA : ¬ (fun q : Nat => s.heap.size ≤ q) b := Nat.not_le.mpr hbl
  have hin1 : vp_in (nI (6 * i) + 1) L := xin_k hi hL 1 (by decide)
  have hJ : Ends3 (fun k b q => q 60 0 = k ∧ (k = 0 → q 100 0 = b) ∧ LG q) := fun k b q a1 a2 a3 => ⟨a1, a2, a3⟩
  refine lv_aload_n hx hb dL_law_1449 rfl (lv_at hl 2 rfl) ?_
  refine lv_aload_n hx hb dL_law_1450 rfl (lv_at hl 1 rfl) ?_
  refine lv_iload hx hb dL_law_1451 (lv_at hl 0 rfl) ?_
  refine lv_iconst (v := 1) hx hb dL_law_1453 (by decide) ?_
  refine lv_iadd hx hb dL_law_1454 ?_
  refine va_sld hx hb hX hbl hbA hS hin1 dL_law_1455 ?_
  refine lv_aload_n hx hb dL_law_1456 rfl (lv_at hl 4 rfl) ?_
  refine xg_calli (vx_runSW (As := [.ref (ad 0), .int (xs (nI (6 * i) + 1).toNatClampNeg), .ref (ad 100)]) (rest := []) ⟨hx, hb, hml, hown, hts⟩ (c_L_fateOf l hl9 hA (xs (nI (6 * i) + 1).toNatClampNeg) (op_fateOf g hJ)) (vx_cwSW 3 hts gL_law_L_fateOf rfl rfl rfl (by decide +kernel) ⟨Nat.le_of_ble_eq_true rfl, Nat.le_of_ble_eq_true rfl⟩) (xg_preS hB0 hP hK hN hS) rfl rfl hl.1 rfl (lv_room (Nat.le_of_ble_eq_true rfl)) dL_law_1457 ⟨by show _ ≤ 601024; omega, by show _ ≤ 7293034; omega⟩) hS (fun k h1 H locs hw hP hS => ?_)
  refine lv_istore (lv' := [(5, .int k), (4, .int (nI (6 * i))), (0, .ref b), (1, .ref (ad 0)), (2, .ref (ad 60)), (3, .ref (ad 100))]) hx hb dL_law_1460 hl (by decide) rfl (fun ls hl => ?_)
  refine lv_aload_n hx hb dL_law_1462 rfl (lv_at hl 4 rfl) ?_
  refine lv_aload_n hx hb dL_law_1463 rfl (lv_at hl 2 rfl) ?_
  refine lv_iload hx hb dL_law_1464 (lv_at hl 1 rfl) ?_
  refine lv_iconst (v := 1) hx hb dL_law_1466 (by decide) ?_
  refine lv_iadd hx hb dL_law_1467 ?_
  refine va_sld hx hb hX hbl hbA hS hin1 dL_law_1468 ?_
  refine xg_calli (va_runV (As := [.int (xs (nI (6 * i) + 1).toNatClampNeg)]) (rest := []) ⟨hx, hb, hml, hown, hts⟩ (c_X6_fateOf l hl9 hA (xs (nI (6 * i) + 1).toNatClampNeg) hw) (cwV 1 hts gL_law_X6_fateOf rfl rfl rfl (by decide +kernel) ⟨Nat.le_of_ble_eq_true rfl, Nat.le_of_ble_eq_true rfl⟩) (xg_preV hB0 hP hK hN hS xs60 rfl) rfl rfl hl.1 rfl (lv_room (Nat.le_of_ble_eq_true rfl)) dL_law_1469 ⟨by show _ ≤ 601024; omega, by show _ ≤ 7293034; omega⟩) hS (fun bb h2 H locs hw hP hS => ?_)
  obtain ⟨e1, e2, g2⟩ := hw
  refine lv_istore (lv' := [(6, .int bb), (5, .int k), (4, .int (nI (6 * i))), (0, .ref b), (1, .ref (ad 0)), (2, .ref (ad 60)), (3, .ref (ad 100))]) hx hb dL_law_1472 hl (by decide) rfl (fun ls hl => ?_)
  refine lv_aload_n hx hb dL_law_1474 rfl (lv_at hl 5 rfl) ?_
  refine xg_calli (va_runV (As := []) (rest := []) ⟨hx, hb, hml, hown, hts⟩ (c_X6_thrown l hl9 hA (h := h2) (K := fun r q => r = h2 60 0 ∧ q = h2) ⟨rfl, rfl⟩) (cwV 0 hts gL_law_X6_thrown rfl rfl rfl (by decide +kernel) ⟨Nat.le_of_ble_eq_true rfl, Nat.le_of_ble_eq_true rfl⟩) (xg_preV hB0 hP hK hN hS xs60 rfl) rfl rfl hl.1 rfl (lv_room (Nat.le_of_ble_eq_true rfl)) dL_law_1475 ⟨by show _ ≤ 601024; omega, by show _ ≤ 7293034; omega⟩) hS (fun r3 h3 H locs hw3 hP hS => ?_)
  obtain ⟨rfl, eh3⟩ := hw3
  rw [eh3] at hP
  refine lv_iload hx hb dL_law_1478 (lv_at hl 1 rfl) ?_
  refine lv_icmp_eq (tgt := 1485) hx hb dL_law_1480 (by decide) (fun _ => ?_) (fun cz => absurd e1 cz)
  refine lv_iload hx hb dL_law_1485 (lv_at hl 1 rfl) ?_
  refine lv_if_ne (tgt := 1502) hx hb dL_law_1487 (by decide) (fun _ => ?_) (fun k0 => ?_)
  · refine lv_goto (tgt := 1617) hx hb dL_law_1502 (by decide) ?_
    refine W.widen (k := cl + 2) (n := sl + 12) (by omega) (by omega) ?_
    exact kk _ _ _ _ g2 hP hS (lv_sub hl [2, 3, 4, 5, 6] rfl)
  · refine lv_aload_n hx hb dL_law_1490 rfl (lv_at hl 6 rfl) ?_
    refine lv_iconst (v := 0) hx hb dL_law_1491 (by decide) ?_
    refine xg_lald hx hb hK hP xs100 xin01 dL_law_1492 ?_
    rw [x32_00]
    refine lv_iload hx hb dL_law_1493 (lv_at hl 0 rfl) ?_
    refine lv_i2l (v := bb.toInt64) hx hb dL_law_1495 rfl ?_
    refine xg_lcmpeq hx hb dL_law_1496 dL_law_1497 (tgt := 1502) (by decide) (fun _ => ?_) (fun cz => absurd (e2 k0) cz)
    refine lv_goto (tgt := 1617) hx hb dL_law_1502 (by decide) ?_
    refine W.widen (k := cl + 2) (n := sl + 12) (by omega) (by omega) ?_
    exact kk _ _ _ _ g2 hP hS (lv_sub hl [2, 3, 4, 5, 6] rfl)
set_option maxHeartbeats 4000000 in
set_option maxRecDepth 100000 in
theorem lk_26 {p : Program} {l : Launch} {e : Env} {s : State} {m : MethodId} {below : List Frame} {meth : Method} {c : Code} {b L : Nat} {xs : Nat → Int32} {ad : Nat → Nat} {D : va_G} {T : Nat → ClassId} {h : xH} {H : Heap} {locs : List Loc} {cl sl i : Nat} {ls : Array Slot} (C : LCx p l s m c b L xs ad D T) (g : LG h) (hP : XP ad D T h H) (hS : va_S (fun q => s.heap.size ≤ q) s.heap H locs) (hl : lv_has ls 7 [(4, .int (nI (6 * i))), (0, .ref b), (1, .ref (ad 0)), (2, .ref (ad 60)), (3, .ref (ad 100))]) (hi : 6 * i + 6 ≤ L) (hc : cl + 2 ≤ 601024) (hs : sl + 12 ≤ 7293034)
    (kk : ∀ (h' : xH) (H' : Heap) (locs' : List Loc) (ls' : Array Slot), LG h' → XP ad D T h' H' → va_S (fun q => s.heap.size ≤ q) s.heap H' locs' → lv_has ls' 7 [(4, .int (nI (6 * i))), (0, .ref b), (1, .ref (ad 0)), (2, .ref (ad 60)), (3, .ref (ad 100))] → W p l e room_1 s m #[Value.ref b] below meth c H' locs' (cl + 2) (sl + 12) (lw_Z below #[Value.ref b] s) (F0 m 1617 ls' [])) : W p l e room_1 s m #[Value.ref b] below meth c H locs cl sl (lw_Z below #[Value.ref b] s) (F0 m 1505 ls []) := by
  obtain ⟨hx, hb, hml, hown, hts, hX, hbl, hl9, hA, hK, hN, hL⟩ := C
  have hB0 := Nat.le_refl s.heap.size
  have hbA : ¬ (fun q : Nat => s.heap.size ≤ q) b := Nat.not_le.mpr hbl
  have hin1 : vp_in (nI (6 * i) + 1) L := xin_k hi hL 1 (by decide)
  have hJ : Ends3 (fun k b q => q 60 0 = k ∧ (k = 0 → q 100 0 = b) ∧ LG q) := fun k b q a1 a2 a3 => ⟨a1, a2, a3⟩
  refine lv_aload_n hx hb dL_law_1505 rfl (lv_at hl 2 rfl) ?_
  refine lv_aload_n hx hb dL_law_1506 rfl (lv_at hl 1 rfl) ?_
  refine lv_iload hx hb dL_law_1507 (lv_at hl 0 rfl) ?_
  refine lv_iconst (v := 1) hx hb dL_law_1509 (by decide) ?_
  refine lv_iadd hx hb dL_law_1510 ?_
  refine va_sld hx hb hX hbl hbA hS hin1 dL_law_1511 ?_
  refine lv_aload_n hx hb dL_law_1512 rfl (lv_at hl 4 rfl) ?_
  refine xg_calli (vx_runSW (As := [.ref (ad 0), .int (xs (nI (6 * i) + 1).toNatClampNeg), .ref (ad 100)]) (rest := []) ⟨hx, hb, hml, hown, hts⟩ (c_L_count l hl9 hA (xs (nI (6 * i) + 1).toNatClampNeg) (op_count g hJ)) (vx_cwSW 3 hts gL_law_L_count rfl rfl rfl (by decide +kernel) ⟨Nat.le_of_ble_eq_true rfl, Nat.le_of_ble_eq_true rfl⟩) (xg_preS hB0 hP hK hN hS) rfl rfl hl.1 rfl (lv_room (Nat.le_of_ble_eq_true rfl)) dL_law_1513 ⟨by show _ ≤ 601024; omega, by show _ ≤ 7293034; omega⟩) hS (fun k h1 H locs hw hP hS => ?_)
  refine lv_istore (lv' := [(5, .int k), (4, .int (nI (6 * i))), (0, .ref b), (1, .ref (ad 0)), (2, .ref (ad 60)), (3, .ref (ad 100))]) hx hb dL_law_1516 hl (by decide) rfl (fun ls hl => ?_)
  refine lv_aload_n hx hb dL_law_1518 rfl (lv_at hl 4 rfl) ?_
  refine lv_aload_n hx hb dL_law_1519 rfl (lv_at hl 2 rfl) ?_
  refine lv_iload hx hb dL_law_1520 (lv_at hl 1 rfl) ?_
  refine lv_iconst (v := 1) hx hb dL_law_1522 (by decide) ?_
  refine lv_iadd hx hb dL_law_1523 ?_
  refine va_sld hx hb hX hbl hbA hS hin1 dL_law_1524 ?_
  refine xg_calli (va_runV (As := [.int (xs (nI (6 * i) + 1).toNatClampNeg)]) (rest := []) ⟨hx, hb, hml, hown, hts⟩ (c_X6_count l hl9 hA (xs (nI (6 * i) + 1).toNatClampNeg) hw) (cwV 1 hts gL_law_X6_count rfl rfl rfl (by decide +kernel) ⟨Nat.le_of_ble_eq_true rfl, Nat.le_of_ble_eq_true rfl⟩) (xg_preV hB0 hP hK hN hS xs60 rfl) rfl rfl hl.1 rfl (lv_room (Nat.le_of_ble_eq_true rfl)) dL_law_1525 ⟨by show _ ≤ 601024; omega, by show _ ≤ 7293034; omega⟩) hS (fun bb h2 H locs hw hP hS => ?_)
  obtain ⟨e1, e2, g2⟩ := hw
  refine lv_istore (lv' := [(6, .int bb), (5, .int k), (4, .int (nI (6 * i))), (0, .ref b), (1, .ref (ad 0)), (2, .ref (ad 60)), (3, .ref (ad 100))]) hx hb dL_law_1528 hl (by decide) rfl (fun ls hl => ?_)
  refine lv_aload_n hx hb dL_law_1530 rfl (lv_at hl 5 rfl) ?_
  refine xg_calli (va_runV (As := []) (rest := []) ⟨hx, hb, hml, hown, hts⟩ (c_X6_thrown l hl9 hA (h := h2) (K := fun r q => r = h2 60 0 ∧ q = h2) ⟨rfl, rfl⟩) (cwV 0 hts gL_law_X6_thrown rfl rfl rfl (by decide +kernel) ⟨Nat.le_of_ble_eq_true rfl, Nat.le_of_ble_eq_true rfl⟩) (xg_preV hB0 hP hK hN hS xs60 rfl) rfl rfl hl.1 rfl (lv_room (Nat.le_of_ble_eq_true rfl)) dL_law_1531 ⟨by show _ ≤ 601024; omega, by show _ ≤ 7293034; omega⟩) hS (fun r3 h3 H locs hw3 hP hS => ?_)
  obtain ⟨rfl, eh3⟩ := hw3
  rw [eh3] at hP
  refine lv_iload hx hb dL_law_1534 (lv_at hl 1 rfl) ?_
  refine lv_icmp_eq (tgt := 1541) hx hb dL_law_1536 (by decide) (fun _ => ?_) (fun cz => absurd e1 cz)
  refine lv_iload hx hb dL_law_1541 (lv_at hl 1 rfl) ?_
  refine lv_if_ne (tgt := 1558) hx hb dL_law_1543 (by decide) (fun _ => ?_) (fun k0 => ?_)
  · refine lv_goto (tgt := 1617) hx hb dL_law_1558 (by decide) ?_
    refine W.widen (k := cl + 2) (n := sl + 12) (by omega) (by omega) ?_
    exact kk _ _ _ _ g2 hP hS (lv_sub hl [2, 3, 4, 5, 6] rfl)
  · refine lv_aload_n hx hb dL_law_1546 rfl (lv_at hl 6 rfl) ?_
    refine lv_iconst (v := 0) hx hb dL_law_1547 (by decide) ?_
    refine xg_lald hx hb hK hP xs100 xin01 dL_law_1548 ?_
    rw [x32_00]
    refine lv_iload hx hb dL_law_1549 (lv_at hl 0 rfl) ?_
    refine lv_i2l (v := bb.toInt64) hx hb dL_law_1551 rfl ?_
    refine xg_lcmpeq hx hb dL_law_1552 dL_law_1553 (tgt := 1558) (by decide) (fun _ => ?_) (fun cz => absurd (e2 k0) cz)
    refine lv_goto (tgt := 1617) hx hb dL_law_1558 (by decide) ?_
    refine W.widen (k := cl + 2) (n := sl + 12) (by omega) (by omega) ?_
    exact kk _ _ _ _ g2 hP hS (lv_sub hl [2, 3, 4, 5, 6] rfl)
set_option maxHeartbeats 4000000 in
set_option maxRecDepth 100000 in
theorem lk_27 {p : Program} {l : Launch} {e : Env} {s : State} {m : MethodId} {below : List Frame} {meth : Method} {c : Code} {b L : Nat} {xs : Nat → Int32} {ad : Nat → Nat} {D : va_G} {T : Nat → ClassId} {h : xH} {H : Heap} {locs : List Loc} {cl sl i : Nat} {ls : Array Slot} (C : LCx p l s m c b L xs ad D T) (g : LG h) (hP : XP ad D T h H) (hS : va_S (fun q => s.heap.size ≤ q) s.heap H locs) (hl : lv_has ls 7 [(4, .int (nI (6 * i))), (0, .ref b), (1, .ref (ad 0)), (2, .ref (ad 60)), (3, .ref (ad 100))]) (hi : 6 * i + 6 ≤ L) (hc : cl + 2 ≤ 601024) (hs : sl + 12 ≤ 7293034)
    (kk : ∀ (h' : xH) (H' : Heap) (locs' : List Loc) (ls' : Array Slot), LG h' → XP ad D T h' H' → va_S (fun q => s.heap.size ≤ q) s.heap H' locs' → lv_has ls' 7 [(4, .int (nI (6 * i))), (0, .ref b), (1, .ref (ad 0)), (2, .ref (ad 60)), (3, .ref (ad 100))] → W p l e room_1 s m #[Value.ref b] below meth c H' locs' (cl + 2) (sl + 12) (lw_Z below #[Value.ref b] s) (F0 m 1617 ls' [])) : W p l e room_1 s m #[Value.ref b] below meth c H locs cl sl (lw_Z below #[Value.ref b] s) (F0 m 1561 ls []) := by
  obtain ⟨hx, hb, hml, hown, hts, hX, hbl, hl9, hA, hK, hN, hL⟩ := C
  have hB0 := Nat.le_refl s.heap.size
  have hbA : ¬ (fun q : Nat => s.heap.size ≤ q) b := Nat.not_le.mpr hbl
  have hin1 : vp_in (nI (6 * i) + 1) L := xin_k hi hL 1 (by decide)
  have hJ : Ends3 (fun k b q => q 60 0 = k ∧ (k = 0 → q 100 0 = b) ∧ LG q) := fun k b q a1 a2 a3 => ⟨a1, a2, a3⟩
  refine lv_aload_n hx hb dL_law_1561 rfl (lv_at hl 2 rfl) ?_
  refine lv_aload_n hx hb dL_law_1562 rfl (lv_at hl 1 rfl) ?_
  refine lv_iload hx hb dL_law_1563 (lv_at hl 0 rfl) ?_
  refine lv_iconst (v := 1) hx hb dL_law_1565 (by decide) ?_
  refine lv_iadd hx hb dL_law_1566 ?_
  refine va_sld hx hb hX hbl hbA hS hin1 dL_law_1567 ?_
  refine lv_aload_n hx hb dL_law_1568 rfl (lv_at hl 4 rfl) ?_
  refine xg_calli (vx_runSW (As := [.ref (ad 0), .int (xs (nI (6 * i) + 1).toNatClampNeg), .ref (ad 100)]) (rest := []) ⟨hx, hb, hml, hown, hts⟩ (c_L_targetsOf l hl9 hA (xs (nI (6 * i) + 1).toNatClampNeg) (op_targetsOf g hJ)) (vx_cwSW 3 hts gL_law_L_targetsOf rfl rfl rfl (by decide +kernel) ⟨Nat.le_of_ble_eq_true rfl, Nat.le_of_ble_eq_true rfl⟩) (xg_preS hB0 hP hK hN hS) rfl rfl hl.1 rfl (lv_room (Nat.le_of_ble_eq_true rfl)) dL_law_1569 ⟨by show _ ≤ 601024; omega, by show _ ≤ 7293034; omega⟩) hS (fun k h1 H locs hw hP hS => ?_)
  refine lv_istore (lv' := [(5, .int k), (4, .int (nI (6 * i))), (0, .ref b), (1, .ref (ad 0)), (2, .ref (ad 60)), (3, .ref (ad 100))]) hx hb dL_law_1572 hl (by decide) rfl (fun ls hl => ?_)
  refine lv_aload_n hx hb dL_law_1574 rfl (lv_at hl 4 rfl) ?_
  refine lv_aload_n hx hb dL_law_1575 rfl (lv_at hl 2 rfl) ?_
  refine lv_iload hx hb dL_law_1576 (lv_at hl 1 rfl) ?_
  refine lv_iconst (v := 1) hx hb dL_law_1578 (by decide) ?_
  refine lv_iadd hx hb dL_law_1579 ?_
  refine va_sld hx hb hX hbl hbA hS hin1 dL_law_1580 ?_
  refine xg_calli (va_runV (As := [.int (xs (nI (6 * i) + 1).toNatClampNeg)]) (rest := []) ⟨hx, hb, hml, hown, hts⟩ (c_X6_targetsOf l hl9 hA (xs (nI (6 * i) + 1).toNatClampNeg) hw) (cwV 1 hts gL_law_X6_targetsOf rfl rfl rfl (by decide +kernel) ⟨Nat.le_of_ble_eq_true rfl, Nat.le_of_ble_eq_true rfl⟩) (xg_preV hB0 hP hK hN hS xs60 rfl) rfl rfl hl.1 rfl (lv_room (Nat.le_of_ble_eq_true rfl)) dL_law_1581 ⟨by show _ ≤ 601024; omega, by show _ ≤ 7293034; omega⟩) hS (fun bb h2 H locs hw hP hS => ?_)
  obtain ⟨e1, e2, g2⟩ := hw
  refine lv_istore (lv' := [(6, .int bb), (5, .int k), (4, .int (nI (6 * i))), (0, .ref b), (1, .ref (ad 0)), (2, .ref (ad 60)), (3, .ref (ad 100))]) hx hb dL_law_1584 hl (by decide) rfl (fun ls hl => ?_)
  refine lv_aload_n hx hb dL_law_1586 rfl (lv_at hl 5 rfl) ?_
  refine xg_calli (va_runV (As := []) (rest := []) ⟨hx, hb, hml, hown, hts⟩ (c_X6_thrown l hl9 hA (h := h2) (K := fun r q => r = h2 60 0 ∧ q = h2) ⟨rfl, rfl⟩) (cwV 0 hts gL_law_X6_thrown rfl rfl rfl (by decide +kernel) ⟨Nat.le_of_ble_eq_true rfl, Nat.le_of_ble_eq_true rfl⟩) (xg_preV hB0 hP hK hN hS xs60 rfl) rfl rfl hl.1 rfl (lv_room (Nat.le_of_ble_eq_true rfl)) dL_law_1587 ⟨by show _ ≤ 601024; omega, by show _ ≤ 7293034; omega⟩) hS (fun r3 h3 H locs hw3 hP hS => ?_)
  obtain ⟨rfl, eh3⟩ := hw3
  rw [eh3] at hP
  refine lv_iload hx hb dL_law_1590 (lv_at hl 1 rfl) ?_
  refine lv_icmp_eq (tgt := 1597) hx hb dL_law_1592 (by decide) (fun _ => ?_) (fun cz => absurd e1 cz)
  refine lv_iload hx hb dL_law_1597 (lv_at hl 1 rfl) ?_
  refine lv_if_ne (tgt := 1614) hx hb dL_law_1599 (by decide) (fun _ => ?_) (fun k0 => ?_)
  · refine lv_goto (tgt := 1617) hx hb dL_law_1614 (by decide) ?_
    refine W.widen (k := cl + 2) (n := sl + 12) (by omega) (by omega) ?_
    exact kk _ _ _ _ g2 hP hS (lv_sub hl [2, 3, 4, 5, 6] rfl)
  · refine lv_aload_n hx hb dL_law_1602 rfl (lv_at hl 6 rfl) ?_
    refine lv_iconst (v := 0) hx hb dL_law_1603 (by decide) ?_
    refine xg_lald hx hb hK hP xs100 xin01 dL_law_1604 ?_
    rw [x32_00]
    refine lv_iload hx hb dL_law_1605 (lv_at hl 0 rfl) ?_
    refine lv_i2l (v := bb.toInt64) hx hb dL_law_1607 rfl ?_
    refine xg_lcmpeq hx hb dL_law_1608 dL_law_1609 (tgt := 1614) (by decide) (fun _ => ?_) (fun cz => absurd (e2 k0) cz)
    refine lv_goto (tgt := 1617) hx hb dL_law_1614 (by decide) ?_
    refine W.widen (k := cl + 2) (n := sl + 12) (by omega) (by omega) ?_
    exact kk _ _ _ _ g2 hP hS (lv_sub hl [2, 3, 4, 5, 6] rfl)
