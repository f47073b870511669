theorem xin01 : vp_in (0 : Int32) 1 := by unfold vp_in; decide
theorem x32_00 : (0 : Int32).toNatClampNeg = 0 := by decide
set_option maxHeartbeats 4000000 in
set_option maxRecDepth 100000 in
theorem c_L_setRate (l : Launch) (hl9 : l.stackTraces = false) {B0 : Nat} {ad : Nat → Nat} {D : va_G} {T : Nat → ClassId} (hA : XA B0 ad) (p0 : Int32) (p1 : Int32) {h : xH} {K : Int32 → xH → Prop} (hw : w_L_setRate p0 p1 h K) : XM l yL_setRate wsL_setRate ({ frames := 7, cells := 1, slots := 6, locals := 124 } : Room) B0 ad D T h [.ref (ad (0)), .int (p0), .int (p1), .ref (ad (100))] xei K 1 6 := by
  unfold XM
  refine va_MetW (cc := cL_setRate) (maxL := 5) (ret := (some .int)) (by decide) rfl ?_
  intro p e s m args below meth c s₁ B hml hv
  have htab := vx_table (x := yL_setRate) B (atoms_spec (ws := wsL_setRate) B.pre _ List.mem_cons_self)
  obtain ⟨rfl, hB0, hP, hK, hN⟩ := hv
  have hx := B.exec
  have hb := B.bytes
  have hr := B.returns
  have hts := atoms_spec (ws := wsL_setRate) B.pre
  have hown : s.vm.findClass RL = some m.cls := findClass_of_methodNamed B.named
  have hlocks := B.notSynchronized
  have hS : va_S (fun q => B0 ≤ q) s.heap s.heap [] := va_S.rf
  have hl := lv_entry ([.ref (ad (0)), .int (p0), .int (p1), .ref (ad (100))]) (n := 5) (Nat.le_of_ble_eq_true rfl)
  rw [lg_entry_eq]
  generalize (lg_sl ([.ref (ad (0)), .int (p0), .int (p1), .ref (ad (100))]) ++ List.replicate (5 - (lg_sl ([.ref (ad (0)), .int (p0), .int (p1), .ref (ad (100))])).length) Slot.unset).toArray = ls at hl ⊢
  have hl : lv_has ls 5 [(0, .ref (ad (0))), (1, .int (p0)), (2, .int (p1)), (3, .ref (ad (100)))] := hl
  unfold w_L_setRate at hw
  refine lv_aload_n hx hb dL_setRate_0 rfl (lv_at hl 3 rfl) ?_
  refine lv_iconst (v := 0) hx hb dL_setRate_1 (by decide) ?_
  refine lv_aload_n hx hb dL_setRate_2 rfl (lv_at hl 0 rfl) ?_
  refine lv_iload_n hx hb dL_setRate_3 rfl (lv_at hl 1 rfl) ?_
  refine lv_iload_n hx hb dL_setRate_4 rfl (lv_at hl 2 rfl) ?_
  refine xg_callXi (vx_runV (As := [.int (p0), .int (p1)]) (rest := [.int (0), .ref (ad (100))]) ⟨hx, hb, hml, hown, hts⟩ (c_X5_setRate l hl9 hA p0 p1 hw) (cwV 2 hts gL_setRate_X5_setRate rfl rfl rfl (by decide +kernel) ⟨Nat.le_of_ble_eq_true rfl, Nat.le_of_ble_eq_true rfl⟩) (xg_preV hB0 hP hK hN hS xs0 rfl) rfl rfl hl.1 rfl (lv_room (Nat.le_of_ble_eq_true rfl)) dL_setRate_5 ⟨Nat.le_of_ble_eq_true rfl, Nat.le_of_ble_eq_true rfl⟩) hS (fun E8 ce9 q9 h8 H locs hw hP hS hce hcv hcl => ?_) (fun r1 h2 H locs hw hP hS => ?_)
  · obtain ⟨rfl, hw⟩ := hw
    refine xg_catchT (name := "java/lang/IllegalArgumentException") hown htab 0 rfl xg_pass0 (by decide) (by decide) (hts (.classLink RL 13 "java/lang/IllegalArgumentException") (by decide +kernel)) (xg_cast hN (by decide +kernel)) hce hcv hcl ?_
    refine lv_astore (lv' := [(4, .ref q9), (0, .ref (ad (0))), (1, .int (p0)), (2, .int (p1)), (3, .ref (ad (100)))]) hx hb dL_setRate_13 hl (by decide) rfl (fun ls hl => ?_)
    refine lv_iconst (v := 1) hx hb dL_setRate_15 (by decide) ?_
    exact xg_irets hx hb hr rfl hlocks hB0 hP hK hN hS dL_setRate_16 (by decide) (by decide) hw
  · refine lv_i2l (v := (r1 : Int32).toInt64) hx hb dL_setRate_8 rfl ?_
    refine xg_last (x := r1) hx hb hK hP hA hS xs100 xin01 dL_setRate_9 (fun H locs h3 eh3 hP hS => ?_)
    have hw := hw h3 (by rw [eh3, x32_00])
    refine lv_goto (tgt := 17) hx hb dL_setRate_10 (by decide) ?_
    refine lv_iconst (v := 0) hx hb dL_setRate_17 (by decide) ?_
    exact xg_irets hx hb hr rfl hlocks hB0 hP hK hN hS dL_setRate_18 (by decide) (by decide) hw
set_option maxHeartbeats 4000000 in
set_option maxRecDepth 100000 in
theorem c_L_setFold (l : Launch) (hl9 : l.stackTraces = false) {B0 : Nat} {ad : Nat → Nat} {D : va_G} {T : Nat → ClassId} (hA : XA B0 ad) (p0 : Int32) {h : xH} {K : Int32 → xH → Prop} (hw : w_L_setFold p0 h K) : XM l yL_setFold wsL_setFold ({ frames := 7, cells := 1, slots := 6, locals := 122 } : Room) B0 ad D T h [.ref (ad (0)), .int (p0), .ref (ad (100))] xei K 1 6 := by
  unfold XM
  refine va_MetW (cc := cL_setFold) (maxL := 4) (ret := (some .int)) (by decide) rfl ?_
  intro p e s m args below meth c s₁ B hml hv
  have htab := vx_table (x := yL_setFold) B (atoms_spec (ws := wsL_setFold) B.pre _ List.mem_cons_self)
  obtain ⟨rfl, hB0, hP, hK, hN⟩ := hv
  have hx := B.exec
  have hb := B.bytes
  have hr := B.returns
  have hts := atoms_spec (ws := wsL_setFold) B.pre
  have hown : s.vm.findClass RL = some m.cls := findClass_of_methodNamed B.named
  have hlocks := B.notSynchronized
  have hS : va_S (fun q => B0 ≤ q) s.heap s.heap [] := va_S.rf
  have hl := lv_entry ([.ref (ad (0)), .int (p0), .ref (ad (100))]) (n := 4) (Nat.le_of_ble_eq_true rfl)
  rw [lg_entry_eq]
  generalize (lg_sl ([.ref (ad (0)), .int (p0), .ref (ad (100))]) ++ List.replicate (4 - (lg_sl ([.ref (ad (0)), .int (p0), .ref (ad (100))])).length) Slot.unset).toArray = ls at hl ⊢
  have hl : lv_has ls 4 [(0, .ref (ad (0))), (1, .int (p0)), (2, .ref (ad (100)))] := hl
  unfold w_L_setFold at hw
  refine lv_aload_n hx hb dL_setFold_0 rfl (lv_at hl 2 rfl) ?_
  refine lv_iconst (v := 0) hx hb dL_setFold_1 (by decide) ?_
  refine lv_aload_n hx hb dL_setFold_2 rfl (lv_at hl 0 rfl) ?_
  refine lv_iload_n hx hb dL_setFold_3 rfl (lv_at hl 1 rfl) ?_
  refine xg_callXi (vx_runV (As := [.int (p0)]) (rest := [.int (0), .ref (ad (100))]) ⟨hx, hb, hml, hown, hts⟩ (c_X5_setFold l hl9 hA p0 hw) (cwV 1 hts gL_setFold_X5_setFold rfl rfl rfl (by decide +kernel) ⟨Nat.le_of_ble_eq_true rfl, Nat.le_of_ble_eq_true rfl⟩) (xg_preV hB0 hP hK hN hS xs0 rfl) rfl rfl hl.1 rfl (lv_room (Nat.le_of_ble_eq_true rfl)) dL_setFold_4 ⟨Nat.le_of_ble_eq_true rfl, Nat.le_of_ble_eq_true rfl⟩) hS (fun E8 ce9 q9 h8 H locs hw hP hS hce hcv hcl => ?_) (fun r1 h2 H locs hw hP hS => ?_)
  · obtain ⟨rfl, hw⟩ := hw
    refine xg_catchT (name := "java/lang/IllegalArgumentException") hown htab 0 rfl xg_pass0 (by decide) (by decide) (hts (.classLink RL 13 "java/lang/IllegalArgumentException") (by decide +kernel)) (xg_cast hN (by decide +kernel)) hce hcv hcl ?_
    refine lv_astore_n (lv' := [(3, .ref q9), (0, .ref (ad (0))), (1, .int (p0)), (2, .ref (ad (100)))]) hx hb dL_setFold_12 rfl hl (by decide) rfl (fun ls hl => ?_)
    refine lv_iconst (v := 1) hx hb dL_setFold_13 (by decide) ?_
    exact xg_irets hx hb hr rfl hlocks hB0 hP hK hN hS dL_setFold_14 (by decide) (by decide) hw
  · refine lv_i2l (v := (r1 : Int32).toInt64) hx hb dL_setFold_7 rfl ?_
    refine xg_last (x := r1) hx hb hK hP hA hS xs100 xin01 dL_setFold_8 (fun H locs h3 eh3 hP hS => ?_)
    have hw := hw h3 (by rw [eh3, x32_00])
    refine lv_goto (tgt := 15) hx hb dL_setFold_9 (by decide) ?_
    refine lv_iconst (v := 0) hx hb dL_setFold_15 (by decide) ?_
    exact xg_irets hx hb hr rfl hlocks hB0 hP hK hN hS dL_setFold_16 (by decide) (by decide) hw
set_option maxHeartbeats 4000000 in
set_option maxRecDepth 100000 in
theorem c_L_setRule (l : Launch) (hl9 : l.stackTraces = false) {B0 : Nat} {ad : Nat → Nat} {D : va_G} {T : Nat → ClassId} (hA : XA B0 ad) (p0 : Int32) (p1 : Int32) (p2 : Int32) (p3 : Int32) (p4 : Int32) {h : xH} {K : Int32 → xH → Prop} (hw : w_L_setRule p0 p1 p2 p3 p4 h K) : XM l yL_setRule wsL_setRule ({ frames := 8, cells := 2, slots := 12, locals := 147 } : Room) B0 ad D T h [.ref (ad (0)), .int (p0), .int (p1), .int (p2), .int (p3), .int (p4), .ref (ad (100))] xei K 2 12 := by
  unfold XM
  refine va_MetW (cc := cL_setRule) (maxL := 8) (ret := (some .int)) (by decide) rfl ?_
  intro p e s m args below meth c s₁ B hml hv
  have htab := vx_table (x := yL_setRule) B (atoms_spec (ws := wsL_setRule) B.pre _ List.mem_cons_self)
  obtain ⟨rfl, hB0, hP, hK, hN⟩ := hv
  have hx := B.exec
  have hb := B.bytes
  have hr := B.returns
  have hts := atoms_spec (ws := wsL_setRule) B.pre
  have hown : s.vm.findClass RL = some m.cls := findClass_of_methodNamed B.named
  have hlocks := B.notSynchronized
  have hS : va_S (fun q => B0 ≤ q) s.heap s.heap [] := va_S.rf
  have hl := lv_entry ([.ref (ad (0)), .int (p0), .int (p1), .int (p2), .int (p3), .int (p4), .ref (ad (100))]) (n := 8) (Nat.le_of_ble_eq_true rfl)
  rw [lg_entry_eq]
  generalize (lg_sl ([.ref (ad (0)), .int (p0), .int (p1), .int (p2), .int (p3), .int (p4), .ref (ad (100))]) ++ List.replicate (8 - (lg_sl ([.ref (ad (0)), .int (p0), .int (p1), .int (p2), .int (p3), .int (p4), .ref (ad (100))])).length) Slot.unset).toArray = ls at hl ⊢
  have hl : lv_has ls 8 [(0, .ref (ad (0))), (1, .int (p0)), (2, .int (p1)), (3, .int (p2)), (4, .int (p3)), (5, .int (p4)), (6, .ref (ad (100)))] := hl
  unfold w_L_setRule at hw
  refine lv_aload hx hb dL_setRule_0 (lv_at hl 6 rfl) ?_
  refine lv_iconst (v := 0) hx hb dL_setRule_2 (by decide) ?_
  refine lv_aload_n hx hb dL_setRule_3 rfl (lv_at hl 0 rfl) ?_
  refine lv_iload_n hx hb dL_setRule_4 rfl (lv_at hl 1 rfl) ?_
  refine lv_iload_n hx hb dL_setRule_5 rfl (lv_at hl 2 rfl) ?_
  refine lv_iload_n hx hb dL_setRule_6 rfl (lv_at hl 3 rfl) ?_
  refine lv_iload hx hb dL_setRule_7 (lv_at hl 4 rfl) ?_
  refine lv_iload hx hb dL_setRule_9 (lv_at hl 5 rfl) ?_
  refine xg_callXi (vx_runV (As := [.int (p0), .int (p1), .int (p2), .int (p3), .int (p4)]) (rest := [.int (0), .ref (ad (100))]) ⟨hx, hb, hml, hown, hts⟩ (c_X5_setRule l hl9 hA p0 p1 p2 p3 p4 hw) (cwV 5 hts gL_setRule_X5_setRule rfl rfl rfl (by decide +kernel) ⟨Nat.le_of_ble_eq_true rfl, Nat.le_of_ble_eq_true rfl⟩) (xg_preV hB0 hP hK hN hS xs0 rfl) rfl rfl hl.1 rfl (lv_room (Nat.le_of_ble_eq_true rfl)) dL_setRule_11 ⟨Nat.le_of_ble_eq_true rfl, Nat.le_of_ble_eq_true rfl⟩) hS (fun E8 ce9 q9 h8 H locs hw hP hS hce hcv hcl => ?_) (fun r1 h2 H locs hw hP hS => ?_)
  · rcases hw with ⟨rfl, hw⟩ | ⟨rfl, hw⟩
    · refine xg_catchT (name := "java/lang/IndexOutOfBoundsException") hown htab 0 rfl xg_pass0 (by decide) (by decide) (hts (.classLink RL 23 "java/lang/IndexOutOfBoundsException") (by decide +kernel)) (xg_cast hN (by decide +kernel)) hce hcv hcl ?_
      refine lv_astore (lv' := [(7, .ref q9), (0, .ref (ad (0))), (1, .int (p0)), (2, .int (p1)), (3, .int (p2)), (4, .int (p3)), (5, .int (p4)), (6, .ref (ad (100)))]) hx hb dL_setRule_19 hl (by decide) rfl (fun ls hl => ?_)
      refine lv_iconst (v := 1) hx hb dL_setRule_21 (by decide) ?_
      exact xg_irets hx hb hr rfl hlocks hB0 hP hK hN hS dL_setRule_22 (by decide) (by decide) hw
    · refine xg_catchT (name := "java/lang/IllegalArgumentException") hown htab 1 rfl (xg_pass1 (hts (.classLink RL 23 "java/lang/IndexOutOfBoundsException") (by decide +kernel)) (by decide) (hN.2.1 ("java/lang/IllegalArgumentException", "java/lang/IndexOutOfBoundsException") (by decide +kernel))) (by decide) (by decide) (hts (.classLink RL 13 "java/lang/IllegalArgumentException") (by decide +kernel)) (xg_cast hN (by decide +kernel)) hce hcv hcl ?_
      refine lv_astore (lv' := [(7, .ref q9), (0, .ref (ad (0))), (1, .int (p0)), (2, .int (p1)), (3, .int (p2)), (4, .int (p3)), (5, .int (p4)), (6, .ref (ad (100)))]) hx hb dL_setRule_23 hl (by decide) rfl (fun ls hl => ?_)
      refine lv_iconst (v := 2) hx hb dL_setRule_25 (by decide) ?_
      exact xg_irets hx hb hr rfl hlocks hB0 hP hK hN hS dL_setRule_26 (by decide) (by decide) hw
  · refine lv_i2l (v := (r1 : Int32).toInt64) hx hb dL_setRule_14 rfl ?_
    refine xg_last (x := r1) hx hb hK hP hA hS xs100 xin01 dL_setRule_15 (fun H locs h3 eh3 hP hS => ?_)
    have hw := hw h3 (by rw [eh3, x32_00])
    refine lv_goto (tgt := 27) hx hb dL_setRule_16 (by decide) ?_
    refine lv_iconst (v := 0) hx hb dL_setRule_27 (by decide) ?_
    exact xg_irets hx hb hr rfl hlocks hB0 hP hK hN hS dL_setRule_28 (by decide) (by decide) hw
set_option maxHeartbeats 4000000 in
set_option maxRecDepth 100000 in
theorem c_L_removeRule (l : Launch) (hl9 : l.stackTraces = false) {B0 : Nat} {ad : Nat → Nat} {D : va_G} {T : Nat → ClassId} (hA : XA B0 ad) (p0 : Int32) {h : xH} {K : Int32 → xH → Prop} (hw : w_L_removeRule p0 h K) : XM l yL_removeRule wsL_removeRule ({ frames := 8, cells := 1, slots := 6, locals := 144 } : Room) B0 ad D T h [.ref (ad (0)), .int (p0), .ref (ad (100))] xei K 1 6 := by
  unfold XM
  refine va_MetW (cc := cL_removeRule) (maxL := 4) (ret := (some .int)) (by decide) rfl ?_
  intro p e s m args below meth c s₁ B hml hv
  have htab := vx_table (x := yL_removeRule) B (atoms_spec (ws := wsL_removeRule) B.pre _ List.mem_cons_self)
  obtain ⟨rfl, hB0, hP, hK, hN⟩ := hv
  have hx := B.exec
  have hb := B.bytes
  have hr := B.returns
  have hts := atoms_spec (ws := wsL_removeRule) B.pre
  have hown : s.vm.findClass RL = some m.cls := findClass_of_methodNamed B.named
  have hlocks := B.notSynchronized
  have hS : va_S (fun q => B0 ≤ q) s.heap s.heap [] := va_S.rf
  have hl := lv_entry ([.ref (ad (0)), .int (p0), .ref (ad (100))]) (n := 4) (Nat.le_of_ble_eq_true rfl)
  rw [lg_entry_eq]
  generalize (lg_sl ([.ref (ad (0)), .int (p0), .ref (ad (100))]) ++ List.replicate (4 - (lg_sl ([.ref (ad (0)), .int (p0), .ref (ad (100))])).length) Slot.unset).toArray = ls at hl ⊢
  have hl : lv_has ls 4 [(0, .ref (ad (0))), (1, .int (p0)), (2, .ref (ad (100)))] := hl
  unfold w_L_removeRule at hw
  refine lv_aload_n hx hb dL_removeRule_0 rfl (lv_at hl 2 rfl) ?_
  refine lv_iconst (v := 0) hx hb dL_removeRule_1 (by decide) ?_
  refine lv_aload_n hx hb dL_removeRule_2 rfl (lv_at hl 0 rfl) ?_
  refine lv_iload_n hx hb dL_removeRule_3 rfl (lv_at hl 1 rfl) ?_
  refine xg_callXi (vx_runV (As := [.int (p0)]) (rest := [.int (0), .ref (ad (100))]) ⟨hx, hb, hml, hown, hts⟩ (c_X5_removeRule l hl9 hA p0 hw) (cwV 1 hts gL_removeRule_X5_removeRule rfl rfl rfl (by decide +kernel) ⟨Nat.le_of_ble_eq_true rfl, Nat.le_of_ble_eq_true rfl⟩) (xg_preV hB0 hP hK hN hS xs0 rfl) rfl rfl hl.1 rfl (lv_room (Nat.le_of_ble_eq_true rfl)) dL_removeRule_4 ⟨Nat.le_of_ble_eq_true rfl, Nat.le_of_ble_eq_true rfl⟩) hS (fun E8 ce9 q9 h8 H locs hw hP hS hce hcv hcl => ?_) (fun r1 h2 H locs hw hP hS => ?_)
  · obtain ⟨rfl, hw⟩ := hw
    refine xg_catchT (name := "java/lang/IndexOutOfBoundsException") hown htab 0 rfl xg_pass0 (by decide) (by decide) (hts (.classLink RL 23 "java/lang/IndexOutOfBoundsException") (by decide +kernel)) (xg_cast hN (by decide +kernel)) hce hcv hcl ?_
    refine lv_astore_n (lv' := [(3, .ref q9), (0, .ref (ad (0))), (1, .int (p0)), (2, .ref (ad (100)))]) hx hb dL_removeRule_19 rfl hl (by decide) rfl (fun ls hl => ?_)
    refine lv_iconst (v := 1) hx hb dL_removeRule_20 (by decide) ?_
    exact xg_irets hx hb hr rfl hlocks hB0 hP hK hN hS dL_removeRule_21 (by decide) (by decide) hw
  · refine lv_if_eq (tgt := 14) hx hb dL_removeRule_7 (by decide) (fun c3 => ?_) (fun c3 => ?_)
    · have hw := hw.1 c3
      refine lv_lconst (v := (0 : Int32).toInt64) hx hb dL_removeRule_14 (by decide) ?_
      refine xg_last (x := (0 : Int32)) hx hb hK hP hA hS xs100 xin01 dL_removeRule_15 (fun H locs h4 eh4 hP hS => ?_)
      have hw := hw h4 (by rw [eh4, x32_00])
      refine lv_goto (tgt := 22) hx hb dL_removeRule_16 (by decide) ?_
      refine lv_iconst (v := 0) hx hb dL_removeRule_22 (by decide) ?_
      exact xg_irets hx hb hr rfl hlocks hB0 hP hK hN hS dL_removeRule_23 (by decide) (by decide) hw
    · have hw := hw.2 c3
      refine lv_lconst (v := (1 : Int32).toInt64) hx hb dL_removeRule_10 (by decide) ?_
      refine lv_goto (tgt := 15) hx hb dL_removeRule_11 (by decide) ?_
      refine xg_last (x := (1 : Int32)) hx hb hK hP hA hS xs100 xin01 dL_removeRule_15 (fun H locs h5 eh5 hP hS => ?_)
      have hw := hw h5 (by rw [eh5, x32_00])
      refine lv_goto (tgt := 22) hx hb dL_removeRule_16 (by decide) ?_
      refine lv_iconst (v := 0) hx hb dL_removeRule_22 (by decide) ?_
      exact xg_irets hx hb hr rfl hlocks hB0 hP hK hN hS dL_removeRule_23 (by decide) (by decide) hw
set_option maxHeartbeats 4000000 in
set_option maxRecDepth 100000 in
theorem c_L_setFile (l : Launch) (hl9 : l.stackTraces = false) {B0 : Nat} {ad : Nat → Nat} {D : va_G} {T : Nat → ClassId} (hA : XA B0 ad) (p0 : Int32) (p1 : Int32) (p2 : Int32) (p3 : Int32) {h : xH} {K : Int32 → xH → Prop} (hw : w_L_setFile p0 p1 p2 p3 h K) : XM l yL_setFile wsL_setFile ({ frames := 8, cells := 2, slots := 12, locals := 146 } : Room) B0 ad D T h [.ref (ad (0)), .int (p0), .int (p1), .int (p2), .int (p3), .ref (ad (100))] xei K 2 12 := by
  unfold XM
  refine va_MetW (cc := cL_setFile) (maxL := 7) (ret := (some .int)) (by decide) rfl ?_
  intro p e s m args below meth c s₁ B hml hv
  have htab := vx_table (x := yL_setFile) B (atoms_spec (ws := wsL_setFile) B.pre _ List.mem_cons_self)
  obtain ⟨rfl, hB0, hP, hK, hN⟩ := hv
  have hx := B.exec
  have hb := B.bytes
  have hr := B.returns
  have hts := atoms_spec (ws := wsL_setFile) B.pre
  have hown : s.vm.findClass RL = some m.cls := findClass_of_methodNamed B.named
  have hlocks := B.notSynchronized
  have hS : va_S (fun q => B0 ≤ q) s.heap s.heap [] := va_S.rf
  have hl := lv_entry ([.ref (ad (0)), .int (p0), .int (p1), .int (p2), .int (p3), .ref (ad (100))]) (n := 7) (Nat.le_of_ble_eq_true rfl)
  rw [lg_entry_eq]
  generalize (lg_sl ([.ref (ad (0)), .int (p0), .int (p1), .int (p2), .int (p3), .ref (ad (100))]) ++ List.replicate (7 - (lg_sl ([.ref (ad (0)), .int (p0), .int (p1), .int (p2), .int (p3), .ref (ad (100))])).length) Slot.unset).toArray = ls at hl ⊢
  have hl : lv_has ls 7 [(0, .ref (ad (0))), (1, .int (p0)), (2, .int (p1)), (3, .int (p2)), (4, .int (p3)), (5, .ref (ad (100)))] := hl
  unfold w_L_setFile at hw
  refine lv_aload hx hb dL_setFile_0 (lv_at hl 5 rfl) ?_
  refine lv_iconst (v := 0) hx hb dL_setFile_2 (by decide) ?_
  refine lv_aload_n hx hb dL_setFile_3 rfl (lv_at hl 0 rfl) ?_
  refine lv_iload_n hx hb dL_setFile_4 rfl (lv_at hl 1 rfl) ?_
  refine lv_iload_n hx hb dL_setFile_5 rfl (lv_at hl 2 rfl) ?_
  refine lv_iload_n hx hb dL_setFile_6 rfl (lv_at hl 3 rfl) ?_
  refine lv_iload hx hb dL_setFile_7 (lv_at hl 4 rfl) ?_
  refine xg_callXi (vx_runV (As := [.int (p0), .int (p1), .int (p2), .int (p3)]) (rest := [.int (0), .ref (ad (100))]) ⟨hx, hb, hml, hown, hts⟩ (c_X5_setFile l hl9 hA p0 p1 p2 p3 hw) (cwV 4 hts gL_setFile_X5_setFile rfl rfl rfl (by decide +kernel) ⟨Nat.le_of_ble_eq_true rfl, Nat.le_of_ble_eq_true rfl⟩) (xg_preV hB0 hP hK hN hS xs0 rfl) rfl rfl hl.1 rfl (lv_room (Nat.le_of_ble_eq_true rfl)) dL_setFile_9 ⟨Nat.le_of_ble_eq_true rfl, Nat.le_of_ble_eq_true rfl⟩) hS (fun E8 ce9 q9 h8 H locs hw hP hS hce hcv hcl => ?_) (fun r1 h2 H locs hw hP hS => ?_)
  · rcases hw with ⟨rfl, hw⟩ | ⟨rfl, hw⟩
    · refine xg_catchT (name := "java/lang/IndexOutOfBoundsException") hown htab 0 rfl xg_pass0 (by decide) (by decide) (hts (.classLink RL 23 "java/lang/IndexOutOfBoundsException") (by decide +kernel)) (xg_cast hN (by decide +kernel)) hce hcv hcl ?_
      refine lv_astore (lv' := [(6, .ref q9), (0, .ref (ad (0))), (1, .int (p0)), (2, .int (p1)), (3, .int (p2)), (4, .int (p3)), (5, .ref (ad (100)))]) hx hb dL_setFile_17 hl (by decide) rfl (fun ls hl => ?_)
      refine lv_iconst (v := 1) hx hb dL_setFile_19 (by decide) ?_
      exact xg_irets hx hb hr rfl hlocks hB0 hP hK hN hS dL_setFile_20 (by decide) (by decide) hw
    · refine xg_catchT (name := "java/lang/IllegalArgumentException") hown htab 1 rfl (xg_pass1 (hts (.classLink RL 23 "java/lang/IndexOutOfBoundsException") (by decide +kernel)) (by decide) (hN.2.1 ("java/lang/IllegalArgumentException", "java/lang/IndexOutOfBoundsException") (by decide +kernel))) (by decide) (by decide) (hts (.classLink RL 13 "java/lang/IllegalArgumentException") (by decide +kernel)) (xg_cast hN (by decide +kernel)) hce hcv hcl ?_
      refine lv_astore (lv' := [(6, .ref q9), (0, .ref (ad (0))), (1, .int (p0)), (2, .int (p1)), (3, .int (p2)), (4, .int (p3)), (5, .ref (ad (100)))]) hx hb dL_setFile_21 hl (by decide) rfl (fun ls hl => ?_)
      refine lv_iconst (v := 2) hx hb dL_setFile_23 (by decide) ?_
      exact xg_irets hx hb hr rfl hlocks hB0 hP hK hN hS dL_setFile_24 (by decide) (by decide) hw
  · refine lv_i2l (v := (r1 : Int32).toInt64) hx hb dL_setFile_12 rfl ?_
    refine xg_last (x := r1) hx hb hK hP hA hS xs100 xin01 dL_setFile_13 (fun H locs h3 eh3 hP hS => ?_)
    have hw := hw h3 (by rw [eh3, x32_00])
    refine lv_goto (tgt := 25) hx hb dL_setFile_14 (by decide) ?_
    refine lv_iconst (v := 0) hx hb dL_setFile_25 (by decide) ?_
    exact xg_irets hx hb hr rfl hlocks hB0 hP hK hN hS dL_setFile_26 (by decide) (by decide) hw
set_option maxHeartbeats 4000000 in
set_option maxRecDepth 100000 in
theorem c_L_message (l : Launch) (hl9 : l.stackTraces = false) {B0 : Nat} {ad : Nat → Nat} {D : va_G} {T : Nat → ClassId} (hA : XA B0 ad) (p0 : Int32) (p1 : Int32) (p2 : Int32) (p3 : Int32) (p4 : Int32) {h : xH} {K : Int32 → xH → Prop} (hw : w_L_message p0 p1 p2 p3 p4 h K) : XM l yL_message wsL_message ({ frames := 8, cells := 2, slots := 12, locals := 148 } : Room) B0 ad D T h [.ref (ad (0)), .int (p0), .int (p1), .int (p2), .int (p3), .int (p4), .ref (ad (100))] xei K 2 12 := by
  unfold XM
  refine va_MetW (cc := cL_message) (maxL := 8) (ret := (some .int)) (by decide) rfl ?_
  intro p e s m args below meth c s₁ B hml hv
  have htab := vx_table (x := yL_message) B (atoms_spec (ws := wsL_message) B.pre _ List.mem_cons_self)
  obtain ⟨rfl, hB0, hP, hK, hN⟩ := hv
  have hx := B.exec
  have hb := B.bytes
  have hr := B.returns
  have hts := atoms_spec (ws := wsL_message) B.pre
  have hown : s.vm.findClass RL = some m.cls := findClass_of_methodNamed B.named
  have hlocks := B.notSynchronized
  have hS : va_S (fun q => B0 ≤ q) s.heap s.heap [] := va_S.rf
  have hl := lv_entry ([.ref (ad (0)), .int (p0), .int (p1), .int (p2), .int (p3), .int (p4), .ref (ad (100))]) (n := 8) (Nat.le_of_ble_eq_true rfl)
  rw [lg_entry_eq]
  generalize (lg_sl ([.ref (ad (0)), .int (p0), .int (p1), .int (p2), .int (p3), .int (p4), .ref (ad (100))]) ++ List.replicate (8 - (lg_sl ([.ref (ad (0)), .int (p0), .int (p1), .int (p2), .int (p3), .int (p4), .ref (ad (100))])).length) Slot.unset).toArray = ls at hl ⊢
  have hl : lv_has ls 8 [(0, .ref (ad (0))), (1, .int (p0)), (2, .int (p1)), (3, .int (p2)), (4, .int (p3)), (5, .int (p4)), (6, .ref (ad (100)))] := hl
  unfold w_L_message at hw
  refine lv_aload hx hb dL_message_0 (lv_at hl 6 rfl) ?_
  refine lv_iconst (v := 0) hx hb dL_message_2 (by decide) ?_
  refine lv_aload_n hx hb dL_message_3 rfl (lv_at hl 0 rfl) ?_
  refine lv_iload_n hx hb dL_message_4 rfl (lv_at hl 1 rfl) ?_
  refine lv_iload_n hx hb dL_message_5 rfl (lv_at hl 2 rfl) ?_
  refine lv_iload_n hx hb dL_message_6 rfl (lv_at hl 3 rfl) ?_
  refine lv_iload hx hb dL_message_7 (lv_at hl 4 rfl) ?_
  refine lv_iload hx hb dL_message_9 (lv_at hl 5 rfl) ?_
  refine xg_callXi (vx_runV (As := [.int (p0), .int (p1), .int (p2), .int (p3), .int (p4)]) (rest := [.int (0), .ref (ad (100))]) ⟨hx, hb, hml, hown, hts⟩ (c_X5_message l hl9 hA p0 p1 p2 p3 p4 hw) (cwV 5 hts gL_message_X5_message rfl rfl rfl (by decide +kernel) ⟨Nat.le_of_ble_eq_true rfl, Nat.le_of_ble_eq_true rfl⟩) (xg_preV hB0 hP hK hN hS xs0 rfl) rfl rfl hl.1 rfl (lv_room (Nat.le_of_ble_eq_true rfl)) dL_message_11 ⟨Nat.le_of_ble_eq_true rfl, Nat.le_of_ble_eq_true rfl⟩) hS (fun E8 ce9 q9 h8 H locs hw hP hS hce hcv hcl => ?_) (fun r1 h2 H locs hw hP hS => ?_)
  · rcases hw with ⟨rfl, hw⟩ | ⟨rfl, hw⟩ | ⟨rfl, hw⟩
    · refine xg_catchT (name := "java/lang/IndexOutOfBoundsException") hown htab 0 rfl xg_pass0 (by decide) (by decide) (hts (.classLink RL 23 "java/lang/IndexOutOfBoundsException") (by decide +kernel)) (xg_cast hN (by decide +kernel)) hce hcv hcl ?_
      refine lv_astore (lv' := [(7, .ref q9), (0, .ref (ad (0))), (1, .int (p0)), (2, .int (p1)), (3, .int (p2)), (4, .int (p3)), (5, .int (p4)), (6, .ref (ad (100)))]) hx hb dL_message_19 hl (by decide) rfl (fun ls hl => ?_)
      refine lv_iconst (v := 1) hx hb dL_message_21 (by decide) ?_
      exact xg_irets hx hb hr rfl hlocks hB0 hP hK hN hS dL_message_22 (by decide) (by decide) hw
    · refine xg_catchT (name := "java/lang/IllegalArgumentException") hown htab 1 rfl (xg_pass1 (hts (.classLink RL 23 "java/lang/IndexOutOfBoundsException") (by decide +kernel)) (by decide) (hN.2.1 ("java/lang/IllegalArgumentException", "java/lang/IndexOutOfBoundsException") (by decide +kernel))) (by decide) (by decide) (hts (.classLink RL 13 "java/lang/IllegalArgumentException") (by decide +kernel)) (xg_cast hN (by decide +kernel)) hce hcv hcl ?_
      refine lv_astore (lv' := [(7, .ref q9), (0, .ref (ad (0))), (1, .int (p0)), (2, .int (p1)), (3, .int (p2)), (4, .int (p3)), (5, .int (p4)), (6, .ref (ad (100)))]) hx hb dL_message_23 hl (by decide) rfl (fun ls hl => ?_)
      refine lv_iconst (v := 2) hx hb dL_message_25 (by decide) ?_
      exact xg_irets hx hb hr rfl hlocks hB0 hP hK hN hS dL_message_26 (by decide) (by decide) hw
    · refine xg_catchT (name := "java/lang/IllegalStateException") hown htab 2 rfl (xg_pass2 (hts (.classLink RL 23 "java/lang/IndexOutOfBoundsException") (by decide +kernel)) (by decide) (hN.2.1 ("java/lang/IllegalStateException", "java/lang/IndexOutOfBoundsException") (by decide +kernel)) (hts (.classLink RL 13 "java/lang/IllegalArgumentException") (by decide +kernel)) (by decide) (hN.2.1 ("java/lang/IllegalStateException", "java/lang/IllegalArgumentException") (by decide +kernel))) (by decide) (by decide) (hts (.classLink RL 36 "java/lang/IllegalStateException") (by decide +kernel)) (xg_cast hN (by decide +kernel)) hce hcv hcl ?_
      refine lv_astore (lv' := [(7, .ref q9), (0, .ref (ad (0))), (1, .int (p0)), (2, .int (p1)), (3, .int (p2)), (4, .int (p3)), (5, .int (p4)), (6, .ref (ad (100)))]) hx hb dL_message_27 hl (by decide) rfl (fun ls hl => ?_)
      refine lv_iconst (v := 3) hx hb dL_message_29 (by decide) ?_
      exact xg_irets hx hb hr rfl hlocks hB0 hP hK hN hS dL_message_30 (by decide) (by decide) hw
  · refine lv_i2l (v := (r1 : Int32).toInt64) hx hb dL_message_14 rfl ?_
    refine xg_last (x := r1) hx hb hK hP hA hS xs100 xin01 dL_message_15 (fun H locs h3 eh3 hP hS => ?_)
    have hw := hw h3 (by rw [eh3, x32_00])
    refine lv_goto (tgt := 31) hx hb dL_message_16 (by decide) ?_
    refine lv_iconst (v := 0) hx hb dL_message_31 (by decide) ?_
    exact xg_irets hx hb hr rfl hlocks hB0 hP hK hN hS dL_message_32 (by decide) (by decide) hw
set_option maxHeartbeats 4000000 in
set_option maxRecDepth 100000 in
theorem c_L_pass (l : Launch) (hl9 : l.stackTraces = false) {B0 : Nat} {ad : Nat → Nat} {D : va_G} {T : Nat → ClassId} (hA : XA B0 ad) (p0 : Int32) {h : xH} {K : Int32 → xH → Prop} (hw : w_L_pass p0 h K) : XM l yL_pass wsL_pass ({ frames := 7, cells := 1, slots := 6, locals := 160 } : Room) B0 ad D T h [.ref (ad (0)), .int (p0), .ref (ad (100))] xei K 1 6 := by
  unfold XM
  refine va_MetW (cc := cL_pass) (maxL := 4) (ret := (some .int)) (by decide) rfl ?_
  intro p e s m args below meth c s₁ B hml hv
  have htab := vx_table (x := yL_pass) B (atoms_spec (ws := wsL_pass) B.pre _ List.mem_cons_self)
  obtain ⟨rfl, hB0, hP, hK, hN⟩ := hv
  have hx := B.exec
  have hb := B.bytes
  have hr := B.returns
  have hts := atoms_spec (ws := wsL_pass) B.pre
  have hown : s.vm.findClass RL = some m.cls := findClass_of_methodNamed B.named
  have hlocks := B.notSynchronized
  have hS : va_S (fun q => B0 ≤ q) s.heap s.heap [] := va_S.rf
  have hl := lv_entry ([.ref (ad (0)), .int (p0), .ref (ad (100))]) (n := 4) (Nat.le_of_ble_eq_true rfl)
  rw [lg_entry_eq]
  generalize (lg_sl ([.ref (ad (0)), .int (p0), .ref (ad (100))]) ++ List.replicate (4 - (lg_sl ([.ref (ad (0)), .int (p0), .ref (ad (100))])).length) Slot.unset).toArray = ls at hl ⊢
  have hl : lv_has ls 4 [(0, .ref (ad (0))), (1, .int (p0)), (2, .ref (ad (100)))] := hl
  unfold w_L_pass at hw
  refine lv_aload_n hx hb dL_pass_0 rfl (lv_at hl 2 rfl) ?_
  refine lv_iconst (v := 0) hx hb dL_pass_1 (by decide) ?_
  refine lv_aload_n hx hb dL_pass_2 rfl (lv_at hl 0 rfl) ?_
  refine lv_iload_n hx hb dL_pass_3 rfl (lv_at hl 1 rfl) ?_
  refine xg_callXi (vx_runV (As := [.int (p0)]) (rest := [.int (0), .ref (ad (100))]) ⟨hx, hb, hml, hown, hts⟩ (c_X5_pass l hl9 hA p0 hw) (cwV 1 hts gL_pass_X5_pass rfl rfl rfl (by decide +kernel) ⟨Nat.le_of_ble_eq_true rfl, Nat.le_of_ble_eq_true rfl⟩) (xg_preV hB0 hP hK hN hS xs0 rfl) rfl rfl hl.1 rfl (lv_room (Nat.le_of_ble_eq_true rfl)) dL_pass_4 ⟨Nat.le_of_ble_eq_true rfl, Nat.le_of_ble_eq_true rfl⟩) hS (fun E8 ce9 q9 h8 H locs hw hP hS hce hcv hcl => ?_) (fun r1 h2 H locs hw hP hS => ?_)
  · obtain ⟨rfl, hw⟩ := hw
    refine xg_catchT (name := "java/lang/IllegalArgumentException") hown htab 0 rfl xg_pass0 (by decide) (by decide) (hts (.classLink RL 13 "java/lang/IllegalArgumentException") (by decide +kernel)) (xg_cast hN (by decide +kernel)) hce hcv hcl ?_
    refine lv_astore_n (lv' := [(3, .ref q9), (0, .ref (ad (0))), (1, .int (p0)), (2, .ref (ad (100)))]) hx hb dL_pass_12 rfl hl (by decide) rfl (fun ls hl => ?_)
    refine lv_iconst (v := 1) hx hb dL_pass_13 (by decide) ?_
    exact xg_irets hx hb hr rfl hlocks hB0 hP hK hN hS dL_pass_14 (by decide) (by decide) hw
  · refine lv_i2l (v := (r1 : Int32).toInt64) hx hb dL_pass_7 rfl ?_
    refine xg_last (x := r1) hx hb hK hP hA hS xs100 xin01 dL_pass_8 (fun H locs h3 eh3 hP hS => ?_)
    have hw := hw h3 (by rw [eh3, x32_00])
    refine lv_goto (tgt := 15) hx hb dL_pass_9 (by decide) ?_
    refine lv_iconst (v := 0) hx hb dL_pass_15 (by decide) ?_
    exact xg_irets hx hb hr rfl hlocks hB0 hP hK hN hS dL_pass_16 (by decide) (by decide) hw
set_option maxHeartbeats 4000000 in
set_option maxRecDepth 100000 in
theorem c_L_rotate (l : Launch) (hl9 : l.stackTraces = false) {B0 : Nat} {ad : Nat → Nat} {D : va_G} {T : Nat → ClassId} (hA : XA B0 ad) (p0 : Int32) {h : xH} {K : Int32 → xH → Prop} (hw : w_L_rotate p0 h K) : XM l yL_rotate wsL_rotate ({ frames := 8, cells := 2, slots := 12, locals := 143 } : Room) B0 ad D T h [.ref (ad (0)), .int (p0), .ref (ad (100))] xei K 2 12 := by
  unfold XM
  refine va_MetW (cc := cL_rotate) (maxL := 4) (ret := (some .int)) (by decide) rfl ?_
  intro p e s m args below meth c s₁ B hml hv
  have htab := vx_table (x := yL_rotate) B (atoms_spec (ws := wsL_rotate) B.pre _ List.mem_cons_self)
  obtain ⟨rfl, hB0, hP, hK, hN⟩ := hv
  have hx := B.exec
  have hb := B.bytes
  have hr := B.returns
  have hts := atoms_spec (ws := wsL_rotate) B.pre
  have hown : s.vm.findClass RL = some m.cls := findClass_of_methodNamed B.named
  have hlocks := B.notSynchronized
  have hS : va_S (fun q => B0 ≤ q) s.heap s.heap [] := va_S.rf
  have hl := lv_entry ([.ref (ad (0)), .int (p0), .ref (ad (100))]) (n := 4) (Nat.le_of_ble_eq_true rfl)
  rw [lg_entry_eq]
  generalize (lg_sl ([.ref (ad (0)), .int (p0), .ref (ad (100))]) ++ List.replicate (4 - (lg_sl ([.ref (ad (0)), .int (p0), .ref (ad (100))])).length) Slot.unset).toArray = ls at hl ⊢
  have hl : lv_has ls 4 [(0, .ref (ad (0))), (1, .int (p0)), (2, .ref (ad (100)))] := hl
  unfold w_L_rotate at hw
  refine lv_aload_n hx hb dL_rotate_0 rfl (lv_at hl 2 rfl) ?_
  refine lv_iconst (v := 0) hx hb dL_rotate_1 (by decide) ?_
  refine lv_aload_n hx hb dL_rotate_2 rfl (lv_at hl 0 rfl) ?_
  refine lv_iload_n hx hb dL_rotate_3 rfl (lv_at hl 1 rfl) ?_
  refine xg_callXi (vx_runV (As := [.int (p0)]) (rest := [.int (0), .ref (ad (100))]) ⟨hx, hb, hml, hown, hts⟩ (c_X5_rotate l hl9 hA p0 hw) (cwV 1 hts gL_rotate_X5_rotate rfl rfl rfl (by decide +kernel) ⟨Nat.le_of_ble_eq_true rfl, Nat.le_of_ble_eq_true rfl⟩) (xg_preV hB0 hP hK hN hS xs0 rfl) rfl rfl hl.1 rfl (lv_room (Nat.le_of_ble_eq_true rfl)) dL_rotate_4 ⟨Nat.le_of_ble_eq_true rfl, Nat.le_of_ble_eq_true rfl⟩) hS (fun E8 ce9 q9 h8 H locs hw hP hS hce hcv hcl => ?_) (fun r1 h2 H locs hw hP hS => ?_)
  · rcases hw with ⟨rfl, hw⟩ | ⟨rfl, hw⟩
    · refine xg_catchT (name := "java/lang/IndexOutOfBoundsException") hown htab 0 rfl xg_pass0 (by decide) (by decide) (hts (.classLink RL 23 "java/lang/IndexOutOfBoundsException") (by decide +kernel)) (xg_cast hN (by decide +kernel)) hce hcv hcl ?_
      refine lv_astore_n (lv' := [(3, .ref q9), (0, .ref (ad (0))), (1, .int (p0)), (2, .ref (ad (100)))]) hx hb dL_rotate_12 rfl hl (by decide) rfl (fun ls hl => ?_)
      refine lv_iconst (v := 1) hx hb dL_rotate_13 (by decide) ?_
      exact xg_irets hx hb hr rfl hlocks hB0 hP hK hN hS dL_rotate_14 (by decide) (by decide) hw
    · refine xg_catchT (name := "java/lang/IllegalStateException") hown htab 1 rfl (xg_pass1 (hts (.classLink RL 23 "java/lang/IndexOutOfBoundsException") (by decide +kernel)) (by decide) (hN.2.1 ("java/lang/IllegalStateException", "java/lang/IndexOutOfBoundsException") (by decide +kernel))) (by decide) (by decide) (hts (.classLink RL 36 "java/lang/IllegalStateException") (by decide +kernel)) (xg_cast hN (by decide +kernel)) hce hcv hcl ?_
      refine lv_astore_n (lv' := [(3, .ref q9), (0, .ref (ad (0))), (1, .int (p0)), (2, .ref (ad (100)))]) hx hb dL_rotate_15 rfl hl (by decide) rfl (fun ls hl => ?_)
      refine lv_iconst (v := 2) hx hb dL_rotate_16 (by decide) ?_
      exact xg_irets hx hb hr rfl hlocks hB0 hP hK hN hS dL_rotate_17 (by decide) (by decide) hw
  · refine lv_i2l (v := (r1 : Int32).toInt64) hx hb dL_rotate_7 rfl ?_
    refine xg_last (x := r1) hx hb hK hP hA hS xs100 xin01 dL_rotate_8 (fun H locs h3 eh3 hP hS => ?_)
    have hw := hw h3 (by rw [eh3, x32_00])
    refine lv_goto (tgt := 18) hx hb dL_rotate_9 (by decide) ?_
    refine lv_iconst (v := 0) hx hb dL_rotate_18 (by decide) ?_
    exact xg_irets hx hb hr rfl hlocks hB0 hP hK hN hS dL_rotate_19 (by decide) (by decide) hw
set_option maxHeartbeats 4000000 in
set_option maxRecDepth 100000 in
theorem c_L_connect (l : Launch) (hl9 : l.stackTraces = false) {B0 : Nat} {ad : Nat → Nat} {D : va_G} {T : Nat → ClassId} (hA : XA B0 ad) {h : xH} {K : Int32 → xH → Prop} (hw : w_L_connect h K) : XM l yL_connect wsL_connect ({ frames := 7, cells := 1, slots := 6, locals := 120 } : Room) B0 ad D T h [.ref (ad (0)), .ref (ad (100))] xei K 1 6 := by
  unfold XM
  refine va_MetW (cc := cL_connect) (maxL := 3) (ret := (some .int)) (by decide) rfl ?_
  intro p e s m args below meth c s₁ B hml hv
  have htab := vx_table (x := yL_connect) B (atoms_spec (ws := wsL_connect) B.pre _ List.mem_cons_self)
  obtain ⟨rfl, hB0, hP, hK, hN⟩ := hv
  have hx := B.exec
  have hb := B.bytes
  have hr := B.returns
  have hts := atoms_spec (ws := wsL_connect) B.pre
  have hown : s.vm.findClass RL = some m.cls := findClass_of_methodNamed B.named
  have hlocks := B.notSynchronized
  have hS : va_S (fun q => B0 ≤ q) s.heap s.heap [] := va_S.rf
  have hl := lv_entry ([.ref (ad (0)), .ref (ad (100))]) (n := 3) (Nat.le_of_ble_eq_true rfl)
  rw [lg_entry_eq]
  generalize (lg_sl ([.ref (ad (0)), .ref (ad (100))]) ++ List.replicate (3 - (lg_sl ([.ref (ad (0)), .ref (ad (100))])).length) Slot.unset).toArray = ls at hl ⊢
  have hl : lv_has ls 3 [(0, .ref (ad (0))), (1, .ref (ad (100)))] := hl
  unfold w_L_connect at hw
  refine lv_aload_n hx hb dL_connect_0 rfl (lv_at hl 1 rfl) ?_
  refine lv_iconst (v := 0) hx hb dL_connect_1 (by decide) ?_
  refine lv_aload_n hx hb dL_connect_2 rfl (lv_at hl 0 rfl) ?_
  refine xg_callXi (vx_runV (As := []) (rest := [.int (0), .ref (ad (100))]) ⟨hx, hb, hml, hown, hts⟩ (c_X5_connect l hl9 hA hw) (cwV 0 hts gL_connect_X5_connect rfl rfl rfl (by decide +kernel) ⟨Nat.le_of_ble_eq_true rfl, Nat.le_of_ble_eq_true rfl⟩) (xg_preV hB0 hP hK hN hS xs0 rfl) rfl rfl hl.1 rfl (lv_room (Nat.le_of_ble_eq_true rfl)) dL_connect_3 ⟨Nat.le_of_ble_eq_true rfl, Nat.le_of_ble_eq_true rfl⟩) hS (fun E8 ce9 q9 h8 H locs hw hP hS hce hcv hcl => ?_) (fun r1 h2 H locs hw hP hS => ?_)
  · obtain ⟨rfl, hw⟩ := hw
    refine xg_catchT (name := "java/lang/IllegalStateException") hown htab 0 rfl xg_pass0 (by decide) (by decide) (hts (.classLink RL 36 "java/lang/IllegalStateException") (by decide +kernel)) (xg_cast hN (by decide +kernel)) hce hcv hcl ?_
    refine lv_astore_n (lv' := [(2, .ref q9), (0, .ref (ad (0))), (1, .ref (ad (100)))]) hx hb dL_connect_11 rfl hl (by decide) rfl (fun ls hl => ?_)
    refine lv_iconst (v := 1) hx hb dL_connect_12 (by decide) ?_
    exact xg_irets hx hb hr rfl hlocks hB0 hP hK hN hS dL_connect_13 (by decide) (by decide) hw
  · refine lv_i2l (v := (r1 : Int32).toInt64) hx hb dL_connect_6 rfl ?_
    refine xg_last (x := r1) hx hb hK hP hA hS xs100 xin01 dL_connect_7 (fun H locs h3 eh3 hP hS => ?_)
    have hw := hw h3 (by rw [eh3, x32_00])
    refine lv_goto (tgt := 14) hx hb dL_connect_8 (by decide) ?_
    refine lv_iconst (v := 0) hx hb dL_connect_14 (by decide) ?_
    exact xg_irets hx hb hr rfl hlocks hB0 hP hK hN hS dL_connect_15 (by decide) (by decide) hw
set_option maxHeartbeats 4000000 in
set_option maxRecDepth 100000 in
theorem c_L_disconnect (l : Launch) (hl9 : l.stackTraces = false) {B0 : Nat} {ad : Nat → Nat} {D : va_G} {T : Nat → ClassId} (hA : XA B0 ad) {h : xH} {K : Int32 → xH → Prop} (hw : w_L_disconnect h K) : XM l yL_disconnect wsL_disconnect ({ frames := 7, cells := 1, slots := 6, locals := 121 } : Room) B0 ad D T h [.ref (ad (0)), .ref (ad (100))] xei K 1 6 := by
  unfold XM
  refine va_MetW (cc := cL_disconnect) (maxL := 3) (ret := (some .int)) (by decide) rfl ?_
  intro p e s m args below meth c s₁ B hml hv
  have htab := vx_table (x := yL_disconnect) B (atoms_spec (ws := wsL_disconnect) B.pre _ List.mem_cons_self)
  obtain ⟨rfl, hB0, hP, hK, hN⟩ := hv
  have hx := B.exec
  have hb := B.bytes
  have hr := B.returns
  have hts := atoms_spec (ws := wsL_disconnect) B.pre
  have hown : s.vm.findClass RL = some m.cls := findClass_of_methodNamed B.named
  have hlocks := B.notSynchronized
  have hS : va_S (fun q => B0 ≤ q) s.heap s.heap [] := va_S.rf
  have hl := lv_entry ([.ref (ad (0)), .ref (ad (100))]) (n := 3) (Nat.le_of_ble_eq_true rfl)
  rw [lg_entry_eq]
  generalize (lg_sl ([.ref (ad (0)), .ref (ad (100))]) ++ List.replicate (3 - (lg_sl ([.ref (ad (0)), .ref (ad (100))])).length) Slot.unset).toArray = ls at hl ⊢
  have hl : lv_has ls 3 [(0, .ref (ad (0))), (1, .ref (ad (100)))] := hl
  unfold w_L_disconnect at hw
  refine lv_aload_n hx hb dL_disconnect_0 rfl (lv_at hl 1 rfl) ?_
  refine lv_iconst (v := 0) hx hb dL_disconnect_1 (by decide) ?_
  refine lv_aload_n hx hb dL_disconnect_2 rfl (lv_at hl 0 rfl) ?_
  refine xg_callXi (vx_runV (As := []) (rest := [.int (0), .ref (ad (100))]) ⟨hx, hb, hml, hown, hts⟩ (c_X5_disconnect l hl9 hA hw) (cwV 0 hts gL_disconnect_X5_disconnect rfl rfl rfl (by decide +kernel) ⟨Nat.le_of_ble_eq_true rfl, Nat.le_of_ble_eq_true rfl⟩) (xg_preV hB0 hP hK hN hS xs0 rfl) rfl rfl hl.1 rfl (lv_room (Nat.le_of_ble_eq_true rfl)) dL_disconnect_3 ⟨Nat.le_of_ble_eq_true rfl, Nat.le_of_ble_eq_true rfl⟩) hS (fun E8 ce9 q9 h8 H locs hw hP hS hce hcv hcl => ?_) (fun r1 h2 H locs hw hP hS => ?_)
  · obtain ⟨rfl, hw⟩ := hw
    refine xg_catchT (name := "java/lang/IllegalStateException") hown htab 0 rfl xg_pass0 (by decide) (by decide) (hts (.classLink RL 36 "java/lang/IllegalStateException") (by decide +kernel)) (xg_cast hN (by decide +kernel)) hce hcv hcl ?_
    refine lv_astore_n (lv' := [(2, .ref q9), (0, .ref (ad (0))), (1, .ref (ad (100)))]) hx hb dL_disconnect_11 rfl hl (by decide) rfl (fun ls hl => ?_)
    refine lv_iconst (v := 1) hx hb dL_disconnect_12 (by decide) ?_
    exact xg_irets hx hb hr rfl hlocks hB0 hP hK hN hS dL_disconnect_13 (by decide) (by decide) hw
  · refine lv_i2l (v := (r1 : Int32).toInt64) hx hb dL_disconnect_6 rfl ?_
    refine xg_last (x := r1) hx hb hK hP hA hS xs100 xin01 dL_disconnect_7 (fun H locs h3 eh3 hP hS => ?_)
    have hw := hw h3 (by rw [eh3, x32_00])
    refine lv_goto (tgt := 14) hx hb dL_disconnect_8 (by decide) ?_
    refine lv_iconst (v := 0) hx hb dL_disconnect_14 (by decide) ?_
    exact xg_irets hx hb hr rfl hlocks hB0 hP hK hN hS dL_disconnect_15 (by decide) (by decide) hw
set_option maxHeartbeats 4000000 in
set_option maxRecDepth 100000 in
theorem c_L_send (l : Launch) (hl9 : l.stackTraces = false) {B0 : Nat} {ad : Nat → Nat} {D : va_G} {T : Nat → ClassId} (hA : XA B0 ad) {h : xH} {K : Int32 → xH → Prop} (hw : w_L_send h K) : XM l yL_send wsL_send ({ frames := 7, cells := 1, slots := 6, locals := 120 } : Room) B0 ad D T h [.ref (ad (0)), .ref (ad (100))] xei K 1 6 := by
  unfold XM
  refine va_MetW (cc := cL_send) (maxL := 3) (ret := (some .int)) (by decide) rfl ?_
  intro p e s m args below meth c s₁ B hml hv
  have htab := vx_table (x := yL_send) B (atoms_spec (ws := wsL_send) B.pre _ List.mem_cons_self)
  obtain ⟨rfl, hB0, hP, hK, hN⟩ := hv
  have hx := B.exec
  have hb := B.bytes
  have hr := B.returns
  have hts := atoms_spec (ws := wsL_send) B.pre
  have hown : s.vm.findClass RL = some m.cls := findClass_of_methodNamed B.named
  have hlocks := B.notSynchronized
  have hS : va_S (fun q => B0 ≤ q) s.heap s.heap [] := va_S.rf
  have hl := lv_entry ([.ref (ad (0)), .ref (ad (100))]) (n := 3) (Nat.le_of_ble_eq_true rfl)
  rw [lg_entry_eq]
  generalize (lg_sl ([.ref (ad (0)), .ref (ad (100))]) ++ List.replicate (3 - (lg_sl ([.ref (ad (0)), .ref (ad (100))])).length) Slot.unset).toArray = ls at hl ⊢
  have hl : lv_has ls 3 [(0, .ref (ad (0))), (1, .ref (ad (100)))] := hl
  unfold w_L_send at hw
  refine lv_aload_n hx hb dL_send_0 rfl (lv_at hl 1 rfl) ?_
  refine lv_iconst (v := 0) hx hb dL_send_1 (by decide) ?_
  refine lv_aload_n hx hb dL_send_2 rfl (lv_at hl 0 rfl) ?_
  refine xg_callXi (vx_runV (As := []) (rest := [.int (0), .ref (ad (100))]) ⟨hx, hb, hml, hown, hts⟩ (c_X5_send l hl9 hA hw) (cwV 0 hts gL_send_X5_send rfl rfl rfl (by decide +kernel) ⟨Nat.le_of_ble_eq_true rfl, Nat.le_of_ble_eq_true rfl⟩) (xg_preV hB0 hP hK hN hS xs0 rfl) rfl rfl hl.1 rfl (lv_room (Nat.le_of_ble_eq_true rfl)) dL_send_3 ⟨Nat.le_of_ble_eq_true rfl, Nat.le_of_ble_eq_true rfl⟩) hS (fun E8 ce9 q9 h8 H locs hw hP hS hce hcv hcl => ?_) (fun r1 h2 H locs hw hP hS => ?_)
  · obtain ⟨rfl, hw⟩ := hw
    refine xg_catchT (name := "java/lang/IllegalStateException") hown htab 0 rfl xg_pass0 (by decide) (by decide) (hts (.classLink RL 36 "java/lang/IllegalStateException") (by decide +kernel)) (xg_cast hN (by decide +kernel)) hce hcv hcl ?_
    refine lv_astore_n (lv' := [(2, .ref q9), (0, .ref (ad (0))), (1, .ref (ad (100)))]) hx hb dL_send_11 rfl hl (by decide) rfl (fun ls hl => ?_)
    refine lv_iconst (v := 1) hx hb dL_send_12 (by decide) ?_
    exact xg_irets hx hb hr rfl hlocks hB0 hP hK hN hS dL_send_13 (by decide) (by decide) hw
  · refine lv_i2l (v := (r1 : Int32).toInt64) hx hb dL_send_6 rfl ?_
    refine xg_last (x := r1) hx hb hK hP hA hS xs100 xin01 dL_send_7 (fun H locs h3 eh3 hP hS => ?_)
    have hw := hw h3 (by rw [eh3, x32_00])
    refine lv_goto (tgt := 14) hx hb dL_send_8 (by decide) ?_
    refine lv_iconst (v := 0) hx hb dL_send_14 (by decide) ?_
    exact xg_irets hx hb hr rfl hlocks hB0 hP hK hN hS dL_send_15 (by decide) (by decide) hw
set_option maxHeartbeats 4000000 in
set_option maxRecDepth 100000 in
theorem c_L_acknowledge (l : Launch) (hl9 : l.stackTraces = false) {B0 : Nat} {ad : Nat → Nat} {D : va_G} {T : Nat → ClassId} (hA : XA B0 ad) {h : xH} {K : Int32 → xH → Prop} (hw : w_L_acknowledge h K) : XM l yL_acknowledge wsL_acknowledge ({ frames := 7, cells := 1, slots := 6, locals := 120 } : Room) B0 ad D T h [.ref (ad (0)), .ref (ad (100))] xei K 1 6 := by
  unfold XM
  refine va_MetW (cc := cL_acknowledge) (maxL := 3) (ret := (some .int)) (by decide) rfl ?_
  intro p e s m args below meth c s₁ B hml hv
  have htab := vx_table (x := yL_acknowledge) B (atoms_spec (ws := wsL_acknowledge) B.pre _ List.mem_cons_self)
  obtain ⟨rfl, hB0, hP, hK, hN⟩ := hv
  have hx := B.exec
  have hb := B.bytes
  have hr := B.returns
  have hts := atoms_spec (ws := wsL_acknowledge) B.pre
  have hown : s.vm.findClass RL = some m.cls := findClass_of_methodNamed B.named
  have hlocks := B.notSynchronized
  have hS : va_S (fun q => B0 ≤ q) s.heap s.heap [] := va_S.rf
  have hl := lv_entry ([.ref (ad (0)), .ref (ad (100))]) (n := 3) (Nat.le_of_ble_eq_true rfl)
  rw [lg_entry_eq]
  generalize (lg_sl ([.ref (ad (0)), .ref (ad (100))]) ++ List.replicate (3 - (lg_sl ([.ref (ad (0)), .ref (ad (100))])).length) Slot.unset).toArray = ls at hl ⊢
  have hl : lv_has ls 3 [(0, .ref (ad (0))), (1, .ref (ad (100)))] := hl
  unfold w_L_acknowledge at hw
  refine lv_aload_n hx hb dL_acknowledge_0 rfl (lv_at hl 1 rfl) ?_
  refine lv_iconst (v := 0) hx hb dL_acknowledge_1 (by decide) ?_
  refine lv_aload_n hx hb dL_acknowledge_2 rfl (lv_at hl 0 rfl) ?_
  refine xg_callXi (vx_runV (As := []) (rest := [.int (0), .ref (ad (100))]) ⟨hx, hb, hml, hown, hts⟩ (c_X5_acknowledge l hl9 hA hw) (cwV 0 hts gL_acknowledge_X5_acknowledge rfl rfl rfl (by decide +kernel) ⟨Nat.le_of_ble_eq_true rfl, Nat.le_of_ble_eq_true rfl⟩) (xg_preV hB0 hP hK hN hS xs0 rfl) rfl rfl hl.1 rfl (lv_room (Nat.le_of_ble_eq_true rfl)) dL_acknowledge_3 ⟨Nat.le_of_ble_eq_true rfl, Nat.le_of_ble_eq_true rfl⟩) hS (fun E8 ce9 q9 h8 H locs hw hP hS hce hcv hcl => ?_) (fun r1 h2 H locs hw hP hS => ?_)
  · obtain ⟨rfl, hw⟩ := hw
    refine xg_catchT (name := "java/lang/IllegalStateException") hown htab 0 rfl xg_pass0 (by decide) (by decide) (hts (.classLink RL 36 "java/lang/IllegalStateException") (by decide +kernel)) (xg_cast hN (by decide +kernel)) hce hcv hcl ?_
    refine lv_astore_n (lv' := [(2, .ref q9), (0, .ref (ad (0))), (1, .ref (ad (100)))]) hx hb dL_acknowledge_11 rfl hl (by decide) rfl (fun ls hl => ?_)
    refine lv_iconst (v := 1) hx hb dL_acknowledge_12 (by decide) ?_
    exact xg_irets hx hb hr rfl hlocks hB0 hP hK hN hS dL_acknowledge_13 (by decide) (by decide) hw
  · refine lv_i2l (v := (r1 : Int32).toInt64) hx hb dL_acknowledge_6 rfl ?_
    refine xg_last (x := r1) hx hb hK hP hA hS xs100 xin01 dL_acknowledge_7 (fun H locs h3 eh3 hP hS => ?_)
    have hw := hw h3 (by rw [eh3, x32_00])
    refine lv_goto (tgt := 14) hx hb dL_acknowledge_8 (by decide) ?_
    refine lv_iconst (v := 0) hx hb dL_acknowledge_14 (by decide) ?_
    exact xg_irets hx hb hr rfl hlocks hB0 hP hK hN hS dL_acknowledge_15 (by decide) (by decide) hw
set_option maxHeartbeats 4000000 in
set_option maxRecDepth 100000 in
theorem c_L_tokens (l : Launch) (hl9 : l.stackTraces = false) {B0 : Nat} {ad : Nat → Nat} {D : va_G} {T : Nat → ClassId} (hA : XA B0 ad) (p0 : Int32) {h : xH} {K : Int32 → xH → Prop} (hw : w_L_tokens p0 h K) : XM l yL_tokens wsL_tokens ({ frames := 8, cells := 1, slots := 6, locals := 142 } : Room) B0 ad D T h [.ref (ad (0)), .int (p0), .ref (ad (100))] xei K 1 6 := by
  unfold XM
  refine va_MetW (cc := cL_tokens) (maxL := 4) (ret := (some .int)) (by decide) rfl ?_
  intro p e s m args below meth c s₁ B hml hv
  have htab := vx_table (x := yL_tokens) B (atoms_spec (ws := wsL_tokens) B.pre _ List.mem_cons_self)
  obtain ⟨rfl, hB0, hP, hK, hN⟩ := hv
  have hx := B.exec
  have hb := B.bytes
  have hr := B.returns
  have hts := atoms_spec (ws := wsL_tokens) B.pre
  have hown : s.vm.findClass RL = some m.cls := findClass_of_methodNamed B.named
  have hlocks := B.notSynchronized
  have hS : va_S (fun q => B0 ≤ q) s.heap s.heap [] := va_S.rf
  have hl := lv_entry ([.ref (ad (0)), .int (p0), .ref (ad (100))]) (n := 4) (Nat.le_of_ble_eq_true rfl)
  rw [lg_entry_eq]
  generalize (lg_sl ([.ref (ad (0)), .int (p0), .ref (ad (100))]) ++ List.replicate (4 - (lg_sl ([.ref (ad (0)), .int (p0), .ref (ad (100))])).length) Slot.unset).toArray = ls at hl ⊢
  have hl : lv_has ls 4 [(0, .ref (ad (0))), (1, .int (p0)), (2, .ref (ad (100)))] := hl
  unfold w_L_tokens at hw
  refine lv_aload_n hx hb dL_tokens_0 rfl (lv_at hl 2 rfl) ?_
  refine lv_iconst (v := 0) hx hb dL_tokens_1 (by decide) ?_
  refine lv_aload_n hx hb dL_tokens_2 rfl (lv_at hl 0 rfl) ?_
  refine lv_iload_n hx hb dL_tokens_3 rfl (lv_at hl 1 rfl) ?_
  refine xg_callXi (vx_runV (As := [.int (p0)]) (rest := [.int (0), .ref (ad (100))]) ⟨hx, hb, hml, hown, hts⟩ (c_X5_tokens l hl9 hA p0 hw) (cwV 1 hts gL_tokens_X5_tokens rfl rfl rfl (by decide +kernel) ⟨Nat.le_of_ble_eq_true rfl, Nat.le_of_ble_eq_true rfl⟩) (xg_preV hB0 hP hK hN hS xs0 rfl) rfl rfl hl.1 rfl (lv_room (Nat.le_of_ble_eq_true rfl)) dL_tokens_4 ⟨Nat.le_of_ble_eq_true rfl, Nat.le_of_ble_eq_true rfl⟩) hS (fun E8 ce9 q9 h8 H locs hw hP hS hce hcv hcl => ?_) (fun r1 h2 H locs hw hP hS => ?_)
  · obtain ⟨rfl, hw⟩ := hw
    refine xg_catchT (name := "java/lang/IndexOutOfBoundsException") hown htab 0 rfl xg_pass0 (by decide) (by decide) (hts (.classLink RL 23 "java/lang/IndexOutOfBoundsException") (by decide +kernel)) (xg_cast hN (by decide +kernel)) hce hcv hcl ?_
    refine lv_astore_n (lv' := [(3, .ref q9), (0, .ref (ad (0))), (1, .int (p0)), (2, .ref (ad (100)))]) hx hb dL_tokens_12 rfl hl (by decide) rfl (fun ls hl => ?_)
    refine lv_iconst (v := 1) hx hb dL_tokens_13 (by decide) ?_
    exact xg_irets hx hb hr rfl hlocks hB0 hP hK hN hS dL_tokens_14 (by decide) (by decide) hw
  · refine lv_i2l (v := (r1 : Int32).toInt64) hx hb dL_tokens_7 rfl ?_
    refine xg_last (x := r1) hx hb hK hP hA hS xs100 xin01 dL_tokens_8 (fun H locs h3 eh3 hP hS => ?_)
    have hw := hw h3 (by rw [eh3, x32_00])
    refine lv_goto (tgt := 15) hx hb dL_tokens_9 (by decide) ?_
    refine lv_iconst (v := 0) hx hb dL_tokens_15 (by decide) ?_
    exact xg_irets hx hb hr rfl hlocks hB0 hP hK hN hS dL_tokens_16 (by decide) (by decide) hw
set_option maxHeartbeats 4000000 in
set_option maxRecDepth 100000 in
theorem c_L_repeats (l : Launch) (hl9 : l.stackTraces = false) {B0 : Nat} {ad : Nat → Nat} {D : va_G} {T : Nat → ClassId} (hA : XA B0 ad) (p0 : Int32) {h : xH} {K : Int32 → xH → Prop} (hw : w_L_repeats p0 h K) : XM l yL_repeats wsL_repeats ({ frames := 8, cells := 1, slots := 6, locals := 142 } : Room) B0 ad D T h [.ref (ad (0)), .int (p0), .ref (ad (100))] xei K 1 6 := by
  unfold XM
  refine va_MetW (cc := cL_repeats) (maxL := 4) (ret := (some .int)) (by decide) rfl ?_
  intro p e s m args below meth c s₁ B hml hv
  have htab := vx_table (x := yL_repeats) B (atoms_spec (ws := wsL_repeats) B.pre _ List.mem_cons_self)
  obtain ⟨rfl, hB0, hP, hK, hN⟩ := hv
  have hx := B.exec
  have hb := B.bytes
  have hr := B.returns
  have hts := atoms_spec (ws := wsL_repeats) B.pre
  have hown : s.vm.findClass RL = some m.cls := findClass_of_methodNamed B.named
  have hlocks := B.notSynchronized
  have hS : va_S (fun q => B0 ≤ q) s.heap s.heap [] := va_S.rf
  have hl := lv_entry ([.ref (ad (0)), .int (p0), .ref (ad (100))]) (n := 4) (Nat.le_of_ble_eq_true rfl)
  rw [lg_entry_eq]
  generalize (lg_sl ([.ref (ad (0)), .int (p0), .ref (ad (100))]) ++ List.replicate (4 - (lg_sl ([.ref (ad (0)), .int (p0), .ref (ad (100))])).length) Slot.unset).toArray = ls at hl ⊢
  have hl : lv_has ls 4 [(0, .ref (ad (0))), (1, .int (p0)), (2, .ref (ad (100)))] := hl
  unfold w_L_repeats at hw
  refine lv_aload_n hx hb dL_repeats_0 rfl (lv_at hl 2 rfl) ?_
  refine lv_iconst (v := 0) hx hb dL_repeats_1 (by decide) ?_
  refine lv_aload_n hx hb dL_repeats_2 rfl (lv_at hl 0 rfl) ?_
  refine lv_iload_n hx hb dL_repeats_3 rfl (lv_at hl 1 rfl) ?_
  refine xg_callXi (vx_runV (As := [.int (p0)]) (rest := [.int (0), .ref (ad (100))]) ⟨hx, hb, hml, hown, hts⟩ (c_X5_repeats l hl9 hA p0 hw) (cwV 1 hts gL_repeats_X5_repeats rfl rfl rfl (by decide +kernel) ⟨Nat.le_of_ble_eq_true rfl, Nat.le_of_ble_eq_true rfl⟩) (xg_preV hB0 hP hK hN hS xs0 rfl) rfl rfl hl.1 rfl (lv_room (Nat.le_of_ble_eq_true rfl)) dL_repeats_4 ⟨Nat.le_of_ble_eq_true rfl, Nat.le_of_ble_eq_true rfl⟩) hS (fun E8 ce9 q9 h8 H locs hw hP hS hce hcv hcl => ?_) (fun r1 h2 H locs hw hP hS => ?_)
  · obtain ⟨rfl, hw⟩ := hw
    refine xg_catchT (name := "java/lang/IndexOutOfBoundsException") hown htab 0 rfl xg_pass0 (by decide) (by decide) (hts (.classLink RL 23 "java/lang/IndexOutOfBoundsException") (by decide +kernel)) (xg_cast hN (by decide +kernel)) hce hcv hcl ?_
    refine lv_astore_n (lv' := [(3, .ref q9), (0, .ref (ad (0))), (1, .int (p0)), (2, .ref (ad (100)))]) hx hb dL_repeats_12 rfl hl (by decide) rfl (fun ls hl => ?_)
    refine lv_iconst (v := 1) hx hb dL_repeats_13 (by decide) ?_
    exact xg_irets hx hb hr rfl hlocks hB0 hP hK hN hS dL_repeats_14 (by decide) (by decide) hw
  · refine lv_i2l (v := (r1 : Int32).toInt64) hx hb dL_repeats_7 rfl ?_
    refine xg_last (x := r1) hx hb hK hP hA hS xs100 xin01 dL_repeats_8 (fun H locs h3 eh3 hP hS => ?_)
    have hw := hw h3 (by rw [eh3, x32_00])
    refine lv_goto (tgt := 15) hx hb dL_repeats_9 (by decide) ?_
    refine lv_iconst (v := 0) hx hb dL_repeats_15 (by decide) ?_
    exact xg_irets hx hb hr rfl hlocks hB0 hP hK hN hS dL_repeats_16 (by decide) (by decide) hw
set_option maxHeartbeats 4000000 in
set_option maxRecDepth 100000 in
theorem c_L_drops (l : Launch) (hl9 : l.stackTraces = false) {B0 : Nat} {ad : Nat → Nat} {D : va_G} {T : Nat → ClassId} (hA : XA B0 ad) (p0 : Int32) {h : xH} {K : Int32 → xH → Prop} (hw : w_L_drops p0 h K) : XM l yL_drops wsL_drops ({ frames := 8, cells := 1, slots := 6, locals := 142 } : Room) B0 ad D T h [.ref (ad (0)), .int (p0), .ref (ad (100))] xei K 1 6 := by
  unfold XM
  refine va_MetW (cc := cL_drops) (maxL := 4) (ret := (some .int)) (by decide) rfl ?_
  intro p e s m args below meth c s₁ B hml hv
  have htab := vx_table (x := yL_drops) B (atoms_spec (ws := wsL_drops) B.pre _ List.mem_cons_self)
  obtain ⟨rfl, hB0, hP, hK, hN⟩ := hv
  have hx := B.exec
  have hb := B.bytes
  have hr := B.returns
  have hts := atoms_spec (ws := wsL_drops) B.pre
  have hown : s.vm.findClass RL = some m.cls := findClass_of_methodNamed B.named
  have hlocks := B.notSynchronized
  have hS : va_S (fun q => B0 ≤ q) s.heap s.heap [] := va_S.rf
  have hl := lv_entry ([.ref (ad (0)), .int (p0), .ref (ad (100))]) (n := 4) (Nat.le_of_ble_eq_true rfl)
  rw [lg_entry_eq]
  generalize (lg_sl ([.ref (ad (0)), .int (p0), .ref (ad (100))]) ++ List.replicate (4 - (lg_sl ([.ref (ad (0)), .int (p0), .ref (ad (100))])).length) Slot.unset).toArray = ls at hl ⊢
  have hl : lv_has ls 4 [(0, .ref (ad (0))), (1, .int (p0)), (2, .ref (ad (100)))] := hl
  unfold w_L_drops at hw
  refine lv_aload_n hx hb dL_drops_0 rfl (lv_at hl 2 rfl) ?_
  refine lv_iconst (v := 0) hx hb dL_drops_1 (by decide) ?_
  refine lv_aload_n hx hb dL_drops_2 rfl (lv_at hl 0 rfl) ?_
  refine lv_iload_n hx hb dL_drops_3 rfl (lv_at hl 1 rfl) ?_
  refine xg_callXi (vx_runV (As := [.int (p0)]) (rest := [.int (0), .ref (ad (100))]) ⟨hx, hb, hml, hown, hts⟩ (c_X5_drops l hl9 hA p0 hw) (cwV 1 hts gL_drops_X5_drops rfl rfl rfl (by decide +kernel) ⟨Nat.le_of_ble_eq_true rfl, Nat.le_of_ble_eq_true rfl⟩) (xg_preV hB0 hP hK hN hS xs0 rfl) rfl rfl hl.1 rfl (lv_room (Nat.le_of_ble_eq_true rfl)) dL_drops_4 ⟨Nat.le_of_ble_eq_true rfl, Nat.le_of_ble_eq_true rfl⟩) hS (fun E8 ce9 q9 h8 H locs hw hP hS hce hcv hcl => ?_) (fun r1 h2 H locs hw hP hS => ?_)
  · obtain ⟨rfl, hw⟩ := hw
    refine xg_catchT (name := "java/lang/IndexOutOfBoundsException") hown htab 0 rfl xg_pass0 (by decide) (by decide) (hts (.classLink RL 23 "java/lang/IndexOutOfBoundsException") (by decide +kernel)) (xg_cast hN (by decide +kernel)) hce hcv hcl ?_
    refine lv_astore_n (lv' := [(3, .ref q9), (0, .ref (ad (0))), (1, .int (p0)), (2, .ref (ad (100)))]) hx hb dL_drops_12 rfl hl (by decide) rfl (fun ls hl => ?_)
    refine lv_iconst (v := 1) hx hb dL_drops_13 (by decide) ?_
    exact xg_irets hx hb hr rfl hlocks hB0 hP hK hN hS dL_drops_14 (by decide) (by decide) hw
  · refine lv_i2l (v := (r1 : Int32).toInt64) hx hb dL_drops_7 rfl ?_
    refine xg_last (x := r1) hx hb hK hP hA hS xs100 xin01 dL_drops_8 (fun H locs h3 eh3 hP hS => ?_)
    have hw := hw h3 (by rw [eh3, x32_00])
    refine lv_goto (tgt := 15) hx hb dL_drops_9 (by decide) ?_
    refine lv_iconst (v := 0) hx hb dL_drops_15 (by decide) ?_
    exact xg_irets hx hb hr rfl hlocks hB0 hP hK hN hS dL_drops_16 (by decide) (by decide) hw
set_option maxHeartbeats 4000000 in
set_option maxRecDepth 100000 in
theorem c_L_size (l : Launch) (hl9 : l.stackTraces = false) {B0 : Nat} {ad : Nat → Nat} {D : va_G} {T : Nat → ClassId} (hA : XA B0 ad) (p0 : Int32) {h : xH} {K : Int32 → xH → Prop} (hw : w_L_size p0 h K) : XM l yL_size wsL_size ({ frames := 8, cells := 1, slots := 6, locals := 142 } : Room) B0 ad D T h [.ref (ad (0)), .int (p0), .ref (ad (100))] xei K 1 6 := by
  unfold XM
  refine va_MetW (cc := cL_size) (maxL := 4) (ret := (some .int)) (by decide) rfl ?_
  intro p e s m args below meth c s₁ B hml hv
  have htab := vx_table (x := yL_size) B (atoms_spec (ws := wsL_size) B.pre _ List.mem_cons_self)
  obtain ⟨rfl, hB0, hP, hK, hN⟩ := hv
  have hx := B.exec
  have hb := B.bytes
  have hr := B.returns
  have hts := atoms_spec (ws := wsL_size) B.pre
  have hown : s.vm.findClass RL = some m.cls := findClass_of_methodNamed B.named
  have hlocks := B.notSynchronized
  have hS : va_S (fun q => B0 ≤ q) s.heap s.heap [] := va_S.rf
  have hl := lv_entry ([.ref (ad (0)), .int (p0), .ref (ad (100))]) (n := 4) (Nat.le_of_ble_eq_true rfl)
  rw [lg_entry_eq]
  generalize (lg_sl ([.ref (ad (0)), .int (p0), .ref (ad (100))]) ++ List.replicate (4 - (lg_sl ([.ref (ad (0)), .int (p0), .ref (ad (100))])).length) Slot.unset).toArray = ls at hl ⊢
  have hl : lv_has ls 4 [(0, .ref (ad (0))), (1, .int (p0)), (2, .ref (ad (100)))] := hl
  unfold w_L_size at hw
  refine lv_aload_n hx hb dL_size_0 rfl (lv_at hl 2 rfl) ?_
  refine lv_iconst (v := 0) hx hb dL_size_1 (by decide) ?_
  refine lv_aload_n hx hb dL_size_2 rfl (lv_at hl 0 rfl) ?_
  refine lv_iload_n hx hb dL_size_3 rfl (lv_at hl 1 rfl) ?_
  refine xg_callXi (vx_runV (As := [.int (p0)]) (rest := [.int (0), .ref (ad (100))]) ⟨hx, hb, hml, hown, hts⟩ (c_X5_size l hl9 hA p0 hw) (cwV 1 hts gL_size_X5_size rfl rfl rfl (by decide +kernel) ⟨Nat.le_of_ble_eq_true rfl, Nat.le_of_ble_eq_true rfl⟩) (xg_preV hB0 hP hK hN hS xs0 rfl) rfl rfl hl.1 rfl (lv_room (Nat.le_of_ble_eq_true rfl)) dL_size_4 ⟨Nat.le_of_ble_eq_true rfl, Nat.le_of_ble_eq_true rfl⟩) hS (fun E8 ce9 q9 h8 H locs hw hP hS hce hcv hcl => ?_) (fun r1 h2 H locs hw hP hS => ?_)
  · obtain ⟨rfl, hw⟩ := hw
    refine xg_catchT (name := "java/lang/IndexOutOfBoundsException") hown htab 0 rfl xg_pass0 (by decide) (by decide) (hts (.classLink RL 23 "java/lang/IndexOutOfBoundsException") (by decide +kernel)) (xg_cast hN (by decide +kernel)) hce hcv hcl ?_
    refine lv_astore_n (lv' := [(3, .ref q9), (0, .ref (ad (0))), (1, .int (p0)), (2, .ref (ad (100)))]) hx hb dL_size_12 rfl hl (by decide) rfl (fun ls hl => ?_)
    refine lv_iconst (v := 1) hx hb dL_size_13 (by decide) ?_
    exact xg_irets hx hb hr rfl hlocks hB0 hP hK hN hS dL_size_14 (by decide) (by decide) hw
  · refine lv_i2l (v := (r1 : Int32).toInt64) hx hb dL_size_7 rfl ?_
    refine xg_last (x := r1) hx hb hK hP hA hS xs100 xin01 dL_size_8 (fun H locs h3 eh3 hP hS => ?_)
    have hw := hw h3 (by rw [eh3, x32_00])
    refine lv_goto (tgt := 15) hx hb dL_size_9 (by decide) ?_
    refine lv_iconst (v := 0) hx hb dL_size_15 (by decide) ?_
    exact xg_irets hx hb hr rfl hlocks hB0 hP hK hN hS dL_size_16 (by decide) (by decide) hw
set_option maxHeartbeats 4000000 in
set_option maxRecDepth 100000 in
theorem c_L_lines (l : Launch) (hl9 : l.stackTraces = false) {B0 : Nat} {ad : Nat → Nat} {D : va_G} {T : Nat → ClassId} (hA : XA B0 ad) (p0 : Int32) (p1 : Int32) {h : xH} {K : Int32 → xH → Prop} (hw : w_L_lines p0 p1 h K) : XM l yL_lines wsL_lines ({ frames := 8, cells := 2, slots := 12, locals := 144 } : Room) B0 ad D T h [.ref (ad (0)), .int (p0), .int (p1), .ref (ad (100))] xei K 2 12 := by
  unfold XM
  refine va_MetW (cc := cL_lines) (maxL := 5) (ret := (some .int)) (by decide) rfl ?_
  intro p e s m args below meth c s₁ B hml hv
  have htab := vx_table (x := yL_lines) B (atoms_spec (ws := wsL_lines) B.pre _ List.mem_cons_self)
  obtain ⟨rfl, hB0, hP, hK, hN⟩ := hv
  have hx := B.exec
  have hb := B.bytes
  have hr := B.returns
  have hts := atoms_spec (ws := wsL_lines) B.pre
  have hown : s.vm.findClass RL = some m.cls := findClass_of_methodNamed B.named
  have hlocks := B.notSynchronized
  have hS : va_S (fun q => B0 ≤ q) s.heap s.heap [] := va_S.rf
  have hl := lv_entry ([.ref (ad (0)), .int (p0), .int (p1), .ref (ad (100))]) (n := 5) (Nat.le_of_ble_eq_true rfl)
  rw [lg_entry_eq]
  generalize (lg_sl ([.ref (ad (0)), .int (p0), .int (p1), .ref (ad (100))]) ++ List.replicate (5 - (lg_sl ([.ref (ad (0)), .int (p0), .int (p1), .ref (ad (100))])).length) Slot.unset).toArray = ls at hl ⊢
  have hl : lv_has ls 5 [(0, .ref (ad (0))), (1, .int (p0)), (2, .int (p1)), (3, .ref (ad (100)))] := hl
  unfold w_L_lines at hw
  refine lv_aload_n hx hb dL_lines_0 rfl (lv_at hl 3 rfl) ?_
  refine lv_iconst (v := 0) hx hb dL_lines_1 (by decide) ?_
  refine lv_aload_n hx hb dL_lines_2 rfl (lv_at hl 0 rfl) ?_
  refine lv_iload_n hx hb dL_lines_3 rfl (lv_at hl 1 rfl) ?_
  refine lv_iload_n hx hb dL_lines_4 rfl (lv_at hl 2 rfl) ?_
  refine xg_callXi (vx_runV (As := [.int (p0), .int (p1)]) (rest := [.int (0), .ref (ad (100))]) ⟨hx, hb, hml, hown, hts⟩ (c_X5_lines l hl9 hA p0 p1 hw) (cwV 2 hts gL_lines_X5_lines rfl rfl rfl (by decide +kernel) ⟨Nat.le_of_ble_eq_true rfl, Nat.le_of_ble_eq_true rfl⟩) (xg_preV hB0 hP hK hN hS xs0 rfl) rfl rfl hl.1 rfl (lv_room (Nat.le_of_ble_eq_true rfl)) dL_lines_5 ⟨Nat.le_of_ble_eq_true rfl, Nat.le_of_ble_eq_true rfl⟩) hS (fun E8 ce9 q9 h8 H locs hw hP hS hce hcv hcl => ?_) (fun r1 h2 H locs hw hP hS => ?_)
  · obtain ⟨rfl, hw⟩ := hw
    refine xg_catchT (name := "java/lang/IndexOutOfBoundsException") hown htab 0 rfl xg_pass0 (by decide) (by decide) (hts (.classLink RL 23 "java/lang/IndexOutOfBoundsException") (by decide +kernel)) (xg_cast hN (by decide +kernel)) hce hcv hcl ?_
    refine lv_astore (lv' := [(4, .ref q9), (0, .ref (ad (0))), (1, .int (p0)), (2, .int (p1)), (3, .ref (ad (100)))]) hx hb dL_lines_13 hl (by decide) rfl (fun ls hl => ?_)
    refine lv_iconst (v := 1) hx hb dL_lines_15 (by decide) ?_
    exact xg_irets hx hb hr rfl hlocks hB0 hP hK hN hS dL_lines_16 (by decide) (by decide) hw
  · refine lv_i2l (v := (r1 : Int32).toInt64) hx hb dL_lines_8 rfl ?_
    refine xg_last (x := r1) hx hb hK hP hA hS xs100 xin01 dL_lines_9 (fun H locs h3 eh3 hP hS => ?_)
    have hw := hw h3 (by rw [eh3, x32_00])
    refine lv_goto (tgt := 17) hx hb dL_lines_10 (by decide) ?_
    refine lv_iconst (v := 0) hx hb dL_lines_17 (by decide) ?_
    exact xg_irets hx hb hr rfl hlocks hB0 hP hK hN hS dL_lines_18 (by decide) (by decide) hw
set_option maxHeartbeats 4000000 in
set_option maxRecDepth 100000 in
theorem c_L_line (l : Launch) (hl9 : l.stackTraces = false) {B0 : Nat} {ad : Nat → Nat} {D : va_G} {T : Nat → ClassId} (hA : XA B0 ad) (p0 : Int32) (p1 : Int32) (p2 : Int32) {h : xH} {K : Int32 → xH → Prop} (hw : w_L_line p0 p1 p2 h K) : XM l yL_line wsL_line ({ frames := 8, cells := 2, slots := 12, locals := 145 } : Room) B0 ad D T h [.ref (ad (0)), .int (p0), .int (p1), .int (p2), .ref (ad (100))] xei K 2 12 := by
  unfold XM
  refine va_MetW (cc := cL_line) (maxL := 6) (ret := (some .int)) (by decide) rfl ?_
  intro p e s m args below meth c s₁ B hml hv
  have htab := vx_table (x := yL_line) B (atoms_spec (ws := wsL_line) B.pre _ List.mem_cons_self)
  obtain ⟨rfl, hB0, hP, hK, hN⟩ := hv
  have hx := B.exec
  have hb := B.bytes
  have hr := B.returns
  have hts := atoms_spec (ws := wsL_line) B.pre
  have hown : s.vm.findClass RL = some m.cls := findClass_of_methodNamed B.named
  have hlocks := B.notSynchronized
  have hS : va_S (fun q => B0 ≤ q) s.heap s.heap [] := va_S.rf
  have hl := lv_entry ([.ref (ad (0)), .int (p0), .int (p1), .int (p2), .ref (ad (100))]) (n := 6) (Nat.le_of_ble_eq_true rfl)
  rw [lg_entry_eq]
  generalize (lg_sl ([.ref (ad (0)), .int (p0), .int (p1), .int (p2), .ref (ad (100))]) ++ List.replicate (6 - (lg_sl ([.ref (ad (0)), .int (p0), .int (p1), .int (p2), .ref (ad (100))])).length) Slot.unset).toArray = ls at hl ⊢
  have hl : lv_has ls 6 [(0, .ref (ad (0))), (1, .int (p0)), (2, .int (p1)), (3, .int (p2)), (4, .ref (ad (100)))] := hl
  unfold w_L_line at hw
  refine lv_aload hx hb dL_line_0 (lv_at hl 4 rfl) ?_
  refine lv_iconst (v := 0) hx hb dL_line_2 (by decide) ?_
  refine lv_aload_n hx hb dL_line_3 rfl (lv_at hl 0 rfl) ?_
  refine lv_iload_n hx hb dL_line_4 rfl (lv_at hl 1 rfl) ?_
  refine lv_iload_n hx hb dL_line_5 rfl (lv_at hl 2 rfl) ?_
  refine lv_iload_n hx hb dL_line_6 rfl (lv_at hl 3 rfl) ?_
  refine xg_callXi (vx_runV (As := [.int (p0), .int (p1), .int (p2)]) (rest := [.int (0), .ref (ad (100))]) ⟨hx, hb, hml, hown, hts⟩ (c_X5_line l hl9 hA p0 p1 p2 hw) (cwV 3 hts gL_line_X5_line rfl rfl rfl (by decide +kernel) ⟨Nat.le_of_ble_eq_true rfl, Nat.le_of_ble_eq_true rfl⟩) (xg_preV hB0 hP hK hN hS xs0 rfl) rfl rfl hl.1 rfl (lv_room (Nat.le_of_ble_eq_true rfl)) dL_line_7 ⟨Nat.le_of_ble_eq_true rfl, Nat.le_of_ble_eq_true rfl⟩) hS (fun E8 ce9 q9 h8 H locs hw hP hS hce hcv hcl => ?_) (fun r1 h2 H locs hw hP hS => ?_)
  · obtain ⟨rfl, hw⟩ := hw
    refine xg_catchT (name := "java/lang/IndexOutOfBoundsException") hown htab 0 rfl xg_pass0 (by decide) (by decide) (hts (.classLink RL 23 "java/lang/IndexOutOfBoundsException") (by decide +kernel)) (xg_cast hN (by decide +kernel)) hce hcv hcl ?_
    refine lv_astore (lv' := [(5, .ref q9), (0, .ref (ad (0))), (1, .int (p0)), (2, .int (p1)), (3, .int (p2)), (4, .ref (ad (100)))]) hx hb dL_line_15 hl (by decide) rfl (fun ls hl => ?_)
    refine lv_iconst (v := 1) hx hb dL_line_17 (by decide) ?_
    exact xg_irets hx hb hr rfl hlocks hB0 hP hK hN hS dL_line_18 (by decide) (by decide) hw
  · refine lv_i2l (v := (r1 : Int32).toInt64) hx hb dL_line_10 rfl ?_
    refine xg_last (x := r1) hx hb hK hP hA hS xs100 xin01 dL_line_11 (fun H locs h3 eh3 hP hS => ?_)
    have hw := hw h3 (by rw [eh3, x32_00])
    refine lv_goto (tgt := 19) hx hb dL_line_12 (by decide) ?_
    refine lv_iconst (v := 0) hx hb dL_line_19 (by decide) ?_
    exact xg_irets hx hb hr rfl hlocks hB0 hP hK hN hS dL_line_20 (by decide) (by decide) hw
set_option maxHeartbeats 4000000 in
set_option maxRecDepth 100000 in
theorem c_L_generations (l : Launch) (hl9 : l.stackTraces = false) {B0 : Nat} {ad : Nat → Nat} {D : va_G} {T : Nat → ClassId} (hA : XA B0 ad) (p0 : Int32) {h : xH} {K : Int32 → xH → Prop} (hw : w_L_generations p0 h K) : XM l yL_generations wsL_generations ({ frames := 8, cells := 1, slots := 6, locals := 142 } : Room) B0 ad D T h [.ref (ad (0)), .int (p0), .ref (ad (100))] xei K 1 6 := by
  unfold XM
  refine va_MetW (cc := cL_generations) (maxL := 4) (ret := (some .int)) (by decide) rfl ?_
  intro p e s m args below meth c s₁ B hml hv
  have htab := vx_table (x := yL_generations) B (atoms_spec (ws := wsL_generations) B.pre _ List.mem_cons_self)
  obtain ⟨rfl, hB0, hP, hK, hN⟩ := hv
  have hx := B.exec
  have hb := B.bytes
  have hr := B.returns
  have hts := atoms_spec (ws := wsL_generations) B.pre
  have hown : s.vm.findClass RL = some m.cls := findClass_of_methodNamed B.named
  have hlocks := B.notSynchronized
  have hS : va_S (fun q => B0 ≤ q) s.heap s.heap [] := va_S.rf
  have hl := lv_entry ([.ref (ad (0)), .int (p0), .ref (ad (100))]) (n := 4) (Nat.le_of_ble_eq_true rfl)
  rw [lg_entry_eq]
  generalize (lg_sl ([.ref (ad (0)), .int (p0), .ref (ad (100))]) ++ List.replicate (4 - (lg_sl ([.ref (ad (0)), .int (p0), .ref (ad (100))])).length) Slot.unset).toArray = ls at hl ⊢
  have hl : lv_has ls 4 [(0, .ref (ad (0))), (1, .int (p0)), (2, .ref (ad (100)))] := hl
  unfold w_L_generations at hw
  refine lv_aload_n hx hb dL_generations_0 rfl (lv_at hl 2 rfl) ?_
  refine lv_iconst (v := 0) hx hb dL_generations_1 (by decide) ?_
  refine lv_aload_n hx hb dL_generations_2 rfl (lv_at hl 0 rfl) ?_
  refine lv_iload_n hx hb dL_generations_3 rfl (lv_at hl 1 rfl) ?_
  refine xg_callXi (vx_runV (As := [.int (p0)]) (rest := [.int (0), .ref (ad (100))]) ⟨hx, hb, hml, hown, hts⟩ (c_X5_generations l hl9 hA p0 hw) (cwV 1 hts gL_generations_X5_generations rfl rfl rfl (by decide +kernel) ⟨Nat.le_of_ble_eq_true rfl, Nat.le_of_ble_eq_true rfl⟩) (xg_preV hB0 hP hK hN hS xs0 rfl) rfl rfl hl.1 rfl (lv_room (Nat.le_of_ble_eq_true rfl)) dL_generations_4 ⟨Nat.le_of_ble_eq_true rfl, Nat.le_of_ble_eq_true rfl⟩) hS (fun E8 ce9 q9 h8 H locs hw hP hS hce hcv hcl => ?_) (fun r1 h2 H locs hw hP hS => ?_)
  · obtain ⟨rfl, hw⟩ := hw
    refine xg_catchT (name := "java/lang/IndexOutOfBoundsException") hown htab 0 rfl xg_pass0 (by decide) (by decide) (hts (.classLink RL 23 "java/lang/IndexOutOfBoundsException") (by decide +kernel)) (xg_cast hN (by decide +kernel)) hce hcv hcl ?_
    refine lv_astore_n (lv' := [(3, .ref q9), (0, .ref (ad (0))), (1, .int (p0)), (2, .ref (ad (100)))]) hx hb dL_generations_12 rfl hl (by decide) rfl (fun ls hl => ?_)
    refine lv_iconst (v := 1) hx hb dL_generations_13 (by decide) ?_
    exact xg_irets hx hb hr rfl hlocks hB0 hP hK hN hS dL_generations_14 (by decide) (by decide) hw
  · refine lv_i2l (v := (r1 : Int32).toInt64) hx hb dL_generations_7 rfl ?_
    refine xg_last (x := r1) hx hb hK hP hA hS xs100 xin01 dL_generations_8 (fun H locs h3 eh3 hP hS => ?_)
    have hw := hw h3 (by rw [eh3, x32_00])
    refine lv_goto (tgt := 15) hx hb dL_generations_9 (by decide) ?_
    refine lv_iconst (v := 0) hx hb dL_generations_15 (by decide) ?_
    exact xg_irets hx hb hr rfl hlocks hB0 hP hK hN hS dL_generations_16 (by decide) (by decide) hw
set_option maxHeartbeats 4000000 in
set_option maxRecDepth 100000 in
theorem c_L_fateOf (l : Launch) (hl9 : l.stackTraces = false) {B0 : Nat} {ad : Nat → Nat} {D : va_G} {T : Nat → ClassId} (hA : XA B0 ad) (p0 : Int32) {h : xH} {K : Int32 → xH → Prop} (hw : w_L_fateOf p0 h K) : XM l yL_fateOf wsL_fateOf ({ frames := 7, cells := 1, slots := 6, locals := 121 } : Room) B0 ad D T h [.ref (ad (0)), .int (p0), .ref (ad (100))] xei K 1 6 := by
  unfold XM
  refine va_MetW (cc := cL_fateOf) (maxL := 4) (ret := (some .int)) (by decide) rfl ?_
  intro p e s m args below meth c s₁ B hml hv
  have htab := vx_table (x := yL_fateOf) B (atoms_spec (ws := wsL_fateOf) B.pre _ List.mem_cons_self)
  obtain ⟨rfl, hB0, hP, hK, hN⟩ := hv
  have hx := B.exec
  have hb := B.bytes
  have hr := B.returns
  have hts := atoms_spec (ws := wsL_fateOf) B.pre
  have hown : s.vm.findClass RL = some m.cls := findClass_of_methodNamed B.named
  have hlocks := B.notSynchronized
  have hS : va_S (fun q => B0 ≤ q) s.heap s.heap [] := va_S.rf
  have hl := lv_entry ([.ref (ad (0)), .int (p0), .ref (ad (100))]) (n := 4) (Nat.le_of_ble_eq_true rfl)
  rw [lg_entry_eq]
  generalize (lg_sl ([.ref (ad (0)), .int (p0), .ref (ad (100))]) ++ List.replicate (4 - (lg_sl ([.ref (ad (0)), .int (p0), .ref (ad (100))])).length) Slot.unset).toArray = ls at hl ⊢
  have hl : lv_has ls 4 [(0, .ref (ad (0))), (1, .int (p0)), (2, .ref (ad (100)))] := hl
  unfold w_L_fateOf at hw
  refine lv_aload_n hx hb dL_fateOf_0 rfl (lv_at hl 2 rfl) ?_
  refine lv_iconst (v := 0) hx hb dL_fateOf_1 (by decide) ?_
  refine lv_aload_n hx hb dL_fateOf_2 rfl (lv_at hl 0 rfl) ?_
  refine lv_iload_n hx hb dL_fateOf_3 rfl (lv_at hl 1 rfl) ?_
  refine xg_callXi (vx_runV (As := [.int (p0)]) (rest := [.int (0), .ref (ad (100))]) ⟨hx, hb, hml, hown, hts⟩ (c_X5_fateOf l hl9 hA p0 hw) (cwV 1 hts gL_fateOf_X5_fateOf rfl rfl rfl (by decide +kernel) ⟨Nat.le_of_ble_eq_true rfl, Nat.le_of_ble_eq_true rfl⟩) (xg_preV hB0 hP hK hN hS xs0 rfl) rfl rfl hl.1 rfl (lv_room (Nat.le_of_ble_eq_true rfl)) dL_fateOf_4 ⟨Nat.le_of_ble_eq_true rfl, Nat.le_of_ble_eq_true rfl⟩) hS (fun E8 ce9 q9 h8 H locs hw hP hS hce hcv hcl => ?_) (fun r1 h2 H locs hw hP hS => ?_)
  · obtain ⟨rfl, hw⟩ := hw
    refine xg_catchT (name := "java/lang/IndexOutOfBoundsException") hown htab 0 rfl xg_pass0 (by decide) (by decide) (hts (.classLink RL 23 "java/lang/IndexOutOfBoundsException") (by decide +kernel)) (xg_cast hN (by decide +kernel)) hce hcv hcl ?_
    refine lv_astore_n (lv' := [(3, .ref q9), (0, .ref (ad (0))), (1, .int (p0)), (2, .ref (ad (100)))]) hx hb dL_fateOf_12 rfl hl (by decide) rfl (fun ls hl => ?_)
    refine lv_iconst (v := 1) hx hb dL_fateOf_13 (by decide) ?_
    exact xg_irets hx hb hr rfl hlocks hB0 hP hK hN hS dL_fateOf_14 (by decide) (by decide) hw
  · refine lv_i2l (v := (r1 : Int32).toInt64) hx hb dL_fateOf_7 rfl ?_
    refine xg_last (x := r1) hx hb hK hP hA hS xs100 xin01 dL_fateOf_8 (fun H locs h3 eh3 hP hS => ?_)
    have hw := hw h3 (by rw [eh3, x32_00])
    refine lv_goto (tgt := 15) hx hb dL_fateOf_9 (by decide) ?_
    refine lv_iconst (v := 0) hx hb dL_fateOf_15 (by decide) ?_
    exact xg_irets hx hb hr rfl hlocks hB0 hP hK hN hS dL_fateOf_16 (by decide) (by decide) hw
set_option maxHeartbeats 4000000 in
set_option maxRecDepth 100000 in
theorem c_L_count (l : Launch) (hl9 : l.stackTraces = false) {B0 : Nat} {ad : Nat → Nat} {D : va_G} {T : Nat → ClassId} (hA : XA B0 ad) (p0 : Int32) {h : xH} {K : Int32 → xH → Prop} (hw : w_L_count p0 h K) : XM l yL_count wsL_count ({ frames := 7, cells := 1, slots := 6, locals := 121 } : Room) B0 ad D T h [.ref (ad (0)), .int (p0), .ref (ad (100))] xei K 1 6 := by
  unfold XM
  refine va_MetW (cc := cL_count) (maxL := 4) (ret := (some .int)) (by decide) rfl ?_
  intro p e s m args below meth c s₁ B hml hv
  have htab := vx_table (x := yL_count) B (atoms_spec (ws := wsL_count) B.pre _ List.mem_cons_self)
  obtain ⟨rfl, hB0, hP, hK, hN⟩ := hv
  have hx := B.exec
  have hb := B.bytes
  have hr := B.returns
  have hts := atoms_spec (ws := wsL_count) B.pre
  have hown : s.vm.findClass RL = some m.cls := findClass_of_methodNamed B.named
  have hlocks := B.notSynchronized
  have hS : va_S (fun q => B0 ≤ q) s.heap s.heap [] := va_S.rf
  have hl := lv_entry ([.ref (ad (0)), .int (p0), .ref (ad (100))]) (n := 4) (Nat.le_of_ble_eq_true rfl)
  rw [lg_entry_eq]
  generalize (lg_sl ([.ref (ad (0)), .int (p0), .ref (ad (100))]) ++ List.replicate (4 - (lg_sl ([.ref (ad (0)), .int (p0), .ref (ad (100))])).length) Slot.unset).toArray = ls at hl ⊢
  have hl : lv_has ls 4 [(0, .ref (ad (0))), (1, .int (p0)), (2, .ref (ad (100)))] := hl
  unfold w_L_count at hw
  refine lv_aload_n hx hb dL_count_0 rfl (lv_at hl 2 rfl) ?_
  refine lv_iconst (v := 0) hx hb dL_count_1 (by decide) ?_
  refine lv_aload_n hx hb dL_count_2 rfl (lv_at hl 0 rfl) ?_
  refine lv_iload_n hx hb dL_count_3 rfl (lv_at hl 1 rfl) ?_
  refine xg_callXi (vx_runV (As := [.int (p0)]) (rest := [.int (0), .ref (ad (100))]) ⟨hx, hb, hml, hown, hts⟩ (c_X5_count l hl9 hA p0 hw) (cwV 1 hts gL_count_X5_count rfl rfl rfl (by decide +kernel) ⟨Nat.le_of_ble_eq_true rfl, Nat.le_of_ble_eq_true rfl⟩) (xg_preV hB0 hP hK hN hS xs0 rfl) rfl rfl hl.1 rfl (lv_room (Nat.le_of_ble_eq_true rfl)) dL_count_4 ⟨Nat.le_of_ble_eq_true rfl, Nat.le_of_ble_eq_true rfl⟩) hS (fun E8 ce9 q9 h8 H locs hw hP hS hce hcv hcl => ?_) (fun r1 h2 H locs hw hP hS => ?_)
  · obtain ⟨rfl, hw⟩ := hw
    refine xg_catchT (name := "java/lang/IndexOutOfBoundsException") hown htab 0 rfl xg_pass0 (by decide) (by decide) (hts (.classLink RL 23 "java/lang/IndexOutOfBoundsException") (by decide +kernel)) (xg_cast hN (by decide +kernel)) hce hcv hcl ?_
    refine lv_astore_n (lv' := [(3, .ref q9), (0, .ref (ad (0))), (1, .int (p0)), (2, .ref (ad (100)))]) hx hb dL_count_12 rfl hl (by decide) rfl (fun ls hl => ?_)
    refine lv_iconst (v := 1) hx hb dL_count_13 (by decide) ?_
    exact xg_irets hx hb hr rfl hlocks hB0 hP hK hN hS dL_count_14 (by decide) (by decide) hw
  · refine lv_i2l (v := (r1 : Int32).toInt64) hx hb dL_count_7 rfl ?_
    refine xg_last (x := r1) hx hb hK hP hA hS xs100 xin01 dL_count_8 (fun H locs h3 eh3 hP hS => ?_)
    have hw := hw h3 (by rw [eh3, x32_00])
    refine lv_goto (tgt := 15) hx hb dL_count_9 (by decide) ?_
    refine lv_iconst (v := 0) hx hb dL_count_15 (by decide) ?_
    exact xg_irets hx hb hr rfl hlocks hB0 hP hK hN hS dL_count_16 (by decide) (by decide) hw
set_option maxHeartbeats 4000000 in
set_option maxRecDepth 100000 in
theorem c_L_targetsOf (l : Launch) (hl9 : l.stackTraces = false) {B0 : Nat} {ad : Nat → Nat} {D : va_G} {T : Nat → ClassId} (hA : XA B0 ad) (p0 : Int32) {h : xH} {K : Int32 → xH → Prop} (hw : w_L_targetsOf p0 h K) : XM l yL_targetsOf wsL_targetsOf ({ frames := 7, cells := 1, slots := 6, locals := 121 } : Room) B0 ad D T h [.ref (ad (0)), .int (p0), .ref (ad (100))] xei K 1 6 := by
  unfold XM
  refine va_MetW (cc := cL_targetsOf) (maxL := 4) (ret := (some .int)) (by decide) rfl ?_
  intro p e s m args below meth c s₁ B hml hv
  have htab := vx_table (x := yL_targetsOf) B (atoms_spec (ws := wsL_targetsOf) B.pre _ List.mem_cons_self)
  obtain ⟨rfl, hB0, hP, hK, hN⟩ := hv
  have hx := B.exec
  have hb := B.bytes
  have hr := B.returns
  have hts := atoms_spec (ws := wsL_targetsOf) B.pre
  have hown : s.vm.findClass RL = some m.cls := findClass_of_methodNamed B.named
  have hlocks := B.notSynchronized
  have hS : va_S (fun q => B0 ≤ q) s.heap s.heap [] := va_S.rf
  have hl := lv_entry ([.ref (ad (0)), .int (p0), .ref (ad (100))]) (n := 4) (Nat.le_of_ble_eq_true rfl)
  rw [lg_entry_eq]
  generalize (lg_sl ([.ref (ad (0)), .int (p0), .ref (ad (100))]) ++ List.replicate (4 - (lg_sl ([.ref (ad (0)), .int (p0), .ref (ad (100))])).length) Slot.unset).toArray = ls at hl ⊢
  have hl : lv_has ls 4 [(0, .ref (ad (0))), (1, .int (p0)), (2, .ref (ad (100)))] := hl
  unfold w_L_targetsOf at hw
  refine lv_aload_n hx hb dL_targetsOf_0 rfl (lv_at hl 2 rfl) ?_
  refine lv_iconst (v := 0) hx hb dL_targetsOf_1 (by decide) ?_
  refine lv_aload_n hx hb dL_targetsOf_2 rfl (lv_at hl 0 rfl) ?_
  refine lv_iload_n hx hb dL_targetsOf_3 rfl (lv_at hl 1 rfl) ?_
  refine xg_callXi (vx_runV (As := [.int (p0)]) (rest := [.int (0), .ref (ad (100))]) ⟨hx, hb, hml, hown, hts⟩ (c_X5_targetsOf l hl9 hA p0 hw) (cwV 1 hts gL_targetsOf_X5_targetsOf rfl rfl rfl (by decide +kernel) ⟨Nat.le_of_ble_eq_true rfl, Nat.le_of_ble_eq_true rfl⟩) (xg_preV hB0 hP hK hN hS xs0 rfl) rfl rfl hl.1 rfl (lv_room (Nat.le_of_ble_eq_true rfl)) dL_targetsOf_4 ⟨Nat.le_of_ble_eq_true rfl, Nat.le_of_ble_eq_true rfl⟩) hS (fun E8 ce9 q9 h8 H locs hw hP hS hce hcv hcl => ?_) (fun r1 h2 H locs hw hP hS => ?_)
  · obtain ⟨rfl, hw⟩ := hw
    refine xg_catchT (name := "java/lang/IndexOutOfBoundsException") hown htab 0 rfl xg_pass0 (by decide) (by decide) (hts (.classLink RL 23 "java/lang/IndexOutOfBoundsException") (by decide +kernel)) (xg_cast hN (by decide +kernel)) hce hcv hcl ?_
    refine lv_astore_n (lv' := [(3, .ref q9), (0, .ref (ad (0))), (1, .int (p0)), (2, .ref (ad (100)))]) hx hb dL_targetsOf_12 rfl hl (by decide) rfl (fun ls hl => ?_)
    refine lv_iconst (v := 1) hx hb dL_targetsOf_13 (by decide) ?_
    exact xg_irets hx hb hr rfl hlocks hB0 hP hK hN hS dL_targetsOf_14 (by decide) (by decide) hw
  · refine lv_i2l (v := (r1 : Int32).toInt64) hx hb dL_targetsOf_7 rfl ?_
    refine xg_last (x := r1) hx hb hK hP hA hS xs100 xin01 dL_targetsOf_8 (fun H locs h3 eh3 hP hS => ?_)
    have hw := hw h3 (by rw [eh3, x32_00])
    refine lv_goto (tgt := 15) hx hb dL_targetsOf_9 (by decide) ?_
    refine lv_iconst (v := 0) hx hb dL_targetsOf_15 (by decide) ?_
    exact xg_irets hx hb hr rfl hlocks hB0 hP hK hN hS dL_targetsOf_16 (by decide) (by decide) hw
