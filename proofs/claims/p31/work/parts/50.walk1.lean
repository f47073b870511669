set_option maxHeartbeats 4000000 in
set_option maxRecDepth 100000 in
theorem c_X0_waiting (l : Launch) (hl9 : l.stackTraces = false) {B0 : Nat} {ad : Nat → Nat} {D : va_G} {T : Nat → ClassId} (hA : XA B0 ad) {h : xH} {K : Int32 → xH → Prop} (hw : w_X0_waiting h K) : XM l yX0_waiting wsX0_waiting ({ frames := 0, cells := 0, slots := 0, locals := 0 } : Room) B0 ad D T h [.ref (ad (4))] xei K 0 0 := by
  unfold XM
  refine Met.ofW (cc := cX0_waiting) (maxL := 1) (ret := (some .int)) (by decide) rfl ?_
  intro p e s m args below meth c s₁ B hml hv
  obtain ⟨rfl, hB0, hP, hK, hN⟩ := hv
  have hx := B.exec
  have hb := B.bytes
  have hr := B.returns
  have hts := atoms_spec (ws := wsX0_waiting) B.pre
  have hown : s.vm.findClass RX0 = some m.cls := findClass_of_methodNamed B.named
  have hlocks := B.notSynchronized
  have iX0 : ∀ w ∈ u_ws RX0 TX0 6, w ∈ wsX0_waiting := by decide +kernel
  have f_15 := hts (.fieldLink RX0 15 "LogSpooler$Forwarder" "end" "I") (by decide +kernel)
  have f_19 := hts (.fieldLink RX0 19 "LogSpooler$Forwarder" "firstQueued" "I") (by decide +kernel)
  have hS : va_S (fun q => B0 ≤ q) s.heap s.heap [] := va_S.rf
  have hl := lv_entry ([.ref (ad (4))]) (n := 1) (Nat.le_of_ble_eq_true rfl)
  rw [lg_entry_eq]
  generalize (lg_sl ([.ref (ad (4))]) ++ List.replicate (1 - (lg_sl ([.ref (ad (4))])).length) Slot.unset).toArray = ls at hl ⊢
  have hl : lv_has ls 1 [(0, .ref (ad (4)))] := hl
  unfold w_X0_waiting at hw
  refine lv_aload_n hx hb dX0_waiting_0 rfl (lv_at hl 0 rfl) ?_
  refine xg_get (C := RX0) (TC := TX0) (N := 6) hx hb hts iX0 hown hK hP xs4 rfl 1 (by decide) f_15 (fun _ h9 => h9) rfl dX0_waiting_1 ?_
  refine lv_aload_n hx hb dX0_waiting_4 rfl (lv_at hl 0 rfl) ?_
  refine xg_get (C := RX0) (TC := TX0) (N := 6) hx hb hts iX0 hown hK hP xs4 rfl 2 (by decide) f_19 (fun _ h9 => h9) rfl dX0_waiting_5 ?_
  refine lv_isub hx hb dX0_waiting_8 ?_
  exact xg_irets hx hb hr rfl hlocks hB0 hP hK hN hS dX0_waiting_9 (by decide) (by decide) hw
set_option maxHeartbeats 4000000 in
set_option maxRecDepth 100000 in
theorem c_X0_flying (l : Launch) (hl9 : l.stackTraces = false) {B0 : Nat} {ad : Nat → Nat} {D : va_G} {T : Nat → ClassId} (hA : XA B0 ad) {h : xH} {K : Int32 → xH → Prop} (hw : w_X0_flying h K) : XM l yX0_flying wsX0_flying ({ frames := 0, cells := 0, slots := 0, locals := 0 } : Room) B0 ad D T h [.ref (ad (4))] xei K 0 0 := by
  unfold XM
  refine Met.ofW (cc := cX0_flying) (maxL := 1) (ret := (some .int)) (by decide) rfl ?_
  intro p e s m args below meth c s₁ B hml hv
  obtain ⟨rfl, hB0, hP, hK, hN⟩ := hv
  have hx := B.exec
  have hb := B.bytes
  have hr := B.returns
  have hts := atoms_spec (ws := wsX0_flying) B.pre
  have hown : s.vm.findClass RX0 = some m.cls := findClass_of_methodNamed B.named
  have hlocks := B.notSynchronized
  have iX0 : ∀ w ∈ u_ws RX0 TX0 6, w ∈ wsX0_flying := by decide +kernel
  have f_19 := hts (.fieldLink RX0 19 "LogSpooler$Forwarder" "firstQueued" "I") (by decide +kernel)
  have f_22 := hts (.fieldLink RX0 22 "LogSpooler$Forwarder" "acknowledgedOnes" "I") (by decide +kernel)
  have hS : va_S (fun q => B0 ≤ q) s.heap s.heap [] := va_S.rf
  have hl := lv_entry ([.ref (ad (4))]) (n := 1) (Nat.le_of_ble_eq_true rfl)
  rw [lg_entry_eq]
  generalize (lg_sl ([.ref (ad (4))]) ++ List.replicate (1 - (lg_sl ([.ref (ad (4))])).length) Slot.unset).toArray = ls at hl ⊢
  have hl : lv_has ls 1 [(0, .ref (ad (4)))] := hl
  unfold w_X0_flying at hw
  refine lv_aload_n hx hb dX0_flying_0 rfl (lv_at hl 0 rfl) ?_
  refine xg_get (C := RX0) (TC := TX0) (N := 6) hx hb hts iX0 hown hK hP xs4 rfl 2 (by decide) f_19 (fun _ h9 => h9) rfl dX0_flying_1 ?_
  refine lv_aload_n hx hb dX0_flying_4 rfl (lv_at hl 0 rfl) ?_
  refine xg_get (C := RX0) (TC := TX0) (N := 6) hx hb hts iX0 hown hK hP xs4 rfl 3 (by decide) f_22 (fun _ h9 => h9) rfl dX0_flying_5 ?_
  refine lv_isub hx hb dX0_flying_8 ?_
  exact xg_irets hx hb hr rfl hlocks hB0 hP hK hN hS dX0_flying_9 (by decide) (by decide) hw
set_option maxHeartbeats 4000000 in
set_option maxRecDepth 100000 in
theorem c_X0_take (l : Launch) (hl9 : l.stackTraces = false) {B0 : Nat} {ad : Nat → Nat} {D : va_G} {T : Nat → ClassId} (hA : XA B0 ad) (p0 : Int32) {h : xH} {K : Unit → xH → Prop} (hw : w_X0_take p0 h K) : XM l yX0_take wsX0_take ({ frames := 0, cells := 0, slots := 0, locals := 0 } : Room) B0 ad D T h [.ref (ad (4)), .int (p0)] xev K 0 0 := by
  unfold XM
  refine Met.ofW (cc := cX0_take) (maxL := 2) (ret := none) (by decide) rfl ?_
  intro p e s m args below meth c s₁ B hml hv
  obtain ⟨rfl, hB0, hP, hK, hN⟩ := hv
  have hx := B.exec
  have hb := B.bytes
  have hr := B.returns
  have hts := atoms_spec (ws := wsX0_take) B.pre
  have hown : s.vm.findClass RX0 = some m.cls := findClass_of_methodNamed B.named
  have hlocks := B.notSynchronized
  have iX0 : ∀ w ∈ u_ws RX0 TX0 6, w ∈ wsX0_take := by decide +kernel
  have f_9 := hts (.fieldLink RX0 9 "LogSpooler$Forwarder" "row" "[I") (by decide +kernel)
  have f_15 := hts (.fieldLink RX0 15 "LogSpooler$Forwarder" "end" "I") (by decide +kernel)
  have f_22 := hts (.fieldLink RX0 22 "LogSpooler$Forwarder" "acknowledgedOnes" "I") (by decide +kernel)
  have f_25 := hts (.fieldLink RX0 25 "LogSpooler$Forwarder" "lostOnes" "I") (by decide +kernel)
  have hS : va_S (fun q => B0 ≤ q) s.heap s.heap [] := va_S.rf
  have hl := lv_entry ([.ref (ad (4)), .int (p0)]) (n := 2) (Nat.le_of_ble_eq_true rfl)
  rw [lg_entry_eq]
  generalize (lg_sl ([.ref (ad (4)), .int (p0)]) ++ List.replicate (2 - (lg_sl ([.ref (ad (4)), .int (p0)])).length) Slot.unset).toArray = ls at hl ⊢
  have hl : lv_has ls 2 [(0, .ref (ad (4))), (1, .int (p0))] := hl
  have j_56 : ∀ (h : xH) (H : Heap) (locs : List Loc) (ls : Array Slot), w_X0_take_56 p0 K h → XP ad D T h H → va_S (fun q => B0 ≤ q) s.heap H locs → lv_has ls 2 [(0, .ref (ad (4)))] → W p l e (headSpec wsX0_take ({ frames := 0, cells := 0, slots := 0, locals := 0 } : Room)).room s m ([.ref (ad (4)), .int (p0)] : List Value).toArray below meth c H locs 0 0 (MQ below (XQ B0 ad D T xev K) ([.ref (ad (4)), .int (p0)] : List Value).toArray s 0 0 (fun q => B0 ≤ q)) (F0 m 56 ls []) := by
    intro h H locs ls hw hP hS hl 
    unfold w_X0_take_56 at hw
    refine lv_aload_n hx hb dX0_take_56 rfl (lv_at hl 0 rfl) ?_
    refine lv_dup hx hb dX0_take_57 rfl ?_
    refine xg_get (C := RX0) (TC := TX0) (N := 6) hx hb hts iX0 hown hK hP xs4 rfl 4 (by decide) f_25 (fun _ h9 => h9) rfl dX0_take_58 ?_
    refine lv_iconst (v := 1) hx hb dX0_take_61 (by decide) ?_
    refine lv_iadd hx hb dX0_take_62 ?_
    refine xg_put (C := RX0) (TC := TX0) (N := 6) hx hb hts iX0 tyX0 tyX0_ok nmX0 hown hK hP hA hS xs4 rfl 4 (by decide) f_25 (fun _ h9 => h9) rfl rfl (ty := .int) (by decide +kernel) rfl rfl dX0_take_63 (fun H locs h7 eh7 hP hS => ?_)
    have hw := hw h7 eh7
    exact xg_vrets hx hb hr hlocks hB0 hP hK hN hS dX0_take_66 (by decide) (by decide) hw
  unfold w_X0_take at hw
  refine lv_aload_n hx hb dX0_take_0 rfl (lv_at hl 0 rfl) ?_
  refine xg_get (C := RX0) (TC := TX0) (N := 6) hx hb hts iX0 hown hK hP xs4 rfl 1 (by decide) f_15 (fun _ h9 => h9) rfl dX0_take_1 ?_
  refine lv_aload_n hx hb dX0_take_4 rfl (lv_at hl 0 rfl) ?_
  refine xg_get (C := RX0) (TC := TX0) (N := 6) hx hb hts iX0 hown hK hP xs4 rfl 3 (by decide) f_22 (fun _ h9 => h9) rfl dX0_take_5 ?_
  refine lv_isub hx hb dX0_take_8 ?_
  refine lv_bipush (v := 30) hx hb dX0_take_9 (by decide) ?_
  refine lv_icmp_ge (tgt := 56) hx hb dX0_take_11 (by decide) (fun c1 => ?_) (fun c1 => ?_)
  · have hw := hw.1 c1
    exact j_56   _ _ _ _ hw hP hS (lv_sub hl [0] rfl)
  · have hw := hw.2 c1
    refine lv_aload_n hx hb dX0_take_14 rfl (lv_at hl 0 rfl) ?_
    refine xg_get (C := RX0) (TC := TX0) (N := 6) hx hb hts iX0 hown hK hP xs4 rfl 1 (by decide) f_15 (fun _ h9 => h9) rfl dX0_take_15 ?_
    refine lv_if_lt (tgt := 56) hx hb dX0_take_18 (by decide) (fun c2 => ?_) (fun c2 => ?_)
    · have hw := hw.1 c2
      exact j_56   _ _ _ _ hw hP hS (lv_sub hl [0] rfl)
    · have hw := hw.2 c2
      refine lv_aload_n hx hb dX0_take_21 rfl (lv_at hl 0 rfl) ?_
      refine xg_get (C := RX0) (TC := TX0) (N := 6) hx hb hts iX0 hown hK hP xs4 rfl 1 (by decide) f_15 (fun _ h9 => h9) rfl dX0_take_22 ?_
      refine lv_aload_n hx hb dX0_take_25 rfl (lv_at hl 0 rfl) ?_
      refine xg_getr (C := RX0) (TC := TX0) (N := 6) hx hb hts iX0 hown hK hP xs4 rfl 0 (by decide) f_9 (fun _ h9 => h9) rfl dX0_take_26 ?_
      refine xg_alen (v := 400) hx hb hK hP xs5 rfl dX0_take_29 ?_
      refine lv_icmp_ge (tgt := 56) hx hb dX0_take_30 (by decide) (fun c3 => ?_) (fun c3 => ?_)
      · have hw := hw.1 c3
        exact j_56   _ _ _ _ hw hP hS (lv_sub hl [0] rfl)
      · have hw := hw.2 c3
        refine lv_aload_n hx hb dX0_take_33 rfl (lv_at hl 0 rfl) ?_
        refine xg_getr (C := RX0) (TC := TX0) (N := 6) hx hb hts iX0 hown hK hP xs4 rfl 0 (by decide) f_9 (fun _ h9 => h9) rfl dX0_take_34 ?_
        refine lv_aload_n hx hb dX0_take_37 rfl (lv_at hl 0 rfl) ?_
        refine xg_get (C := RX0) (TC := TX0) (N := 6) hx hb hts iX0 hown hK hP xs4 rfl 1 (by decide) f_15 (fun _ h9 => h9) rfl dX0_take_38 ?_
        refine lv_iload_n hx hb dX0_take_41 rfl (lv_at hl 1 rfl) ?_
        obtain ⟨hi4, hw⟩ := hw
        refine xg_iast hx hb hK hP hA hS xs5 hi4 dX0_take_42 (fun H locs h5 eh5 hP hS => ?_)
        have hw := hw h5 eh5
        refine lv_aload_n hx hb dX0_take_43 rfl (lv_at hl 0 rfl) ?_
        refine lv_dup hx hb dX0_take_44 rfl ?_
        refine xg_get (C := RX0) (TC := TX0) (N := 6) hx hb hts iX0 hown hK hP xs4 rfl 1 (by decide) f_15 (fun _ h9 => h9) rfl dX0_take_45 ?_
        refine lv_iconst (v := 1) hx hb dX0_take_48 (by decide) ?_
        refine lv_iadd hx hb dX0_take_49 ?_
        refine xg_put (C := RX0) (TC := TX0) (N := 6) hx hb hts iX0 tyX0 tyX0_ok nmX0 hown hK hP hA hS xs4 rfl 1 (by decide) f_15 (fun _ h9 => h9) rfl rfl (ty := .int) (by decide +kernel) rfl rfl dX0_take_50 (fun H locs h6 eh6 hP hS => ?_)
        have hw := hw h6 eh6
        refine lv_goto (tgt := 66) hx hb dX0_take_53 (by decide) ?_
        exact xg_vrets hx hb hr hlocks hB0 hP hK hN hS dX0_take_66 (by decide) (by decide) hw
set_option maxHeartbeats 4000000 in
set_option maxRecDepth 100000 in
theorem c_X0_canSend (l : Launch) (hl9 : l.stackTraces = false) {B0 : Nat} {ad : Nat → Nat} {D : va_G} {T : Nat → ClassId} (hA : XA B0 ad) {h : xH} {K : Int32 → xH → Prop} (hw : w_X0_canSend h K) : XM l yX0_canSend wsX0_canSend ({ frames := 1, cells := 0, slots := 0, locals := 20 } : Room) B0 ad D T h [.ref (ad (4))] xei K 0 0 := by
  unfold XM
  refine Met.ofW (cc := cX0_canSend) (maxL := 1) (ret := (some .boolean)) (by decide) rfl ?_
  intro p e s m args below meth c s₁ B hml hv
  obtain ⟨rfl, hB0, hP, hK, hN⟩ := hv
  have hx := B.exec
  have hb := B.bytes
  have hr := B.returns
  have hts := atoms_spec (ws := wsX0_canSend) B.pre
  have hown : s.vm.findClass RX0 = some m.cls := findClass_of_methodNamed B.named
  have hlocks := B.notSynchronized
  have iX0 : ∀ w ∈ u_ws RX0 TX0 6, w ∈ wsX0_canSend := by decide +kernel
  have f_28 := hts (.fieldLink RX0 28 "LogSpooler$Forwarder" "isConnected" "Z") (by decide +kernel)
  have hS : va_S (fun q => B0 ≤ q) s.heap s.heap [] := va_S.rf
  have hl := lv_entry ([.ref (ad (4))]) (n := 1) (Nat.le_of_ble_eq_true rfl)
  rw [lg_entry_eq]
  generalize (lg_sl ([.ref (ad (4))]) ++ List.replicate (1 - (lg_sl ([.ref (ad (4))])).length) Slot.unset).toArray = ls at hl ⊢
  have hl : lv_has ls 1 [(0, .ref (ad (4)))] := hl
  unfold w_X0_canSend at hw
  refine lv_aload_n hx hb dX0_canSend_0 rfl (lv_at hl 0 rfl) ?_
  refine xg_get (C := RX0) (TC := TX0) (N := 6) hx hb hts iX0 hown hK hP xs4 rfl 5 (by decide) f_28 (fun _ h9 => h9) rfl dX0_canSend_1 ?_
  refine lv_if_eq (tgt := 26) hx hb dX0_canSend_4 (by decide) (fun c1 => ?_) (fun c1 => ?_)
  · have hw := hw.1 c1
    refine lv_iconst (v := 0) hx hb dX0_canSend_26 (by decide) ?_
    exact xg_irets hx hb hr rfl hlocks hB0 hP hK hN hS dX0_canSend_27 (by decide) (by decide) hw
  · have hw := hw.2 c1
    refine lv_aload_n hx hb dX0_canSend_7 rfl (lv_at hl 0 rfl) ?_
    refine xg_calli (va_runV (As := []) (rest := []) ⟨hx, hb, hml, hown, hts⟩ (c_X0_waiting l hl9 hA hw) (cwV 0 hts gX0_canSend_X0_waiting rfl rfl rfl (by decide +kernel) ⟨Nat.le_of_ble_eq_true rfl, Nat.le_of_ble_eq_true rfl⟩) (xg_preV hB0 hP hK hN hS xs4 rfl) rfl rfl hl.1 rfl (lv_room (Nat.le_of_ble_eq_true rfl)) dX0_canSend_8 ⟨Nat.le_of_ble_eq_true rfl, Nat.le_of_ble_eq_true rfl⟩) hS (fun r2 h3 H locs hw hP hS => ?_)
    refine lv_if_le (tgt := 26) hx hb dX0_canSend_11 (by decide) (fun c4 => ?_) (fun c4 => ?_)
    · have hw := hw.1 c4
      refine lv_iconst (v := 0) hx hb dX0_canSend_26 (by decide) ?_
      exact xg_irets hx hb hr rfl hlocks hB0 hP hK hN hS dX0_canSend_27 (by decide) (by decide) hw
    · have hw := hw.2 c4
      refine lv_aload_n hx hb dX0_canSend_14 rfl (lv_at hl 0 rfl) ?_
      refine xg_calli (va_runV (As := []) (rest := []) ⟨hx, hb, hml, hown, hts⟩ (c_X0_flying l hl9 hA hw) (cwV 0 hts gX0_canSend_X0_flying rfl rfl rfl (by decide +kernel) ⟨Nat.le_of_ble_eq_true rfl, Nat.le_of_ble_eq_true rfl⟩) (xg_preV hB0 hP hK hN hS xs4 rfl) rfl rfl hl.1 rfl (lv_room (Nat.le_of_ble_eq_true rfl)) dX0_canSend_15 ⟨Nat.le_of_ble_eq_true rfl, Nat.le_of_ble_eq_true rfl⟩) hS (fun r5 h6 H locs hw hP hS => ?_)
      refine lv_iconst (v := 5) hx hb dX0_canSend_18 (by decide) ?_
      refine lv_icmp_ge (tgt := 26) hx hb dX0_canSend_19 (by decide) (fun c7 => ?_) (fun c7 => ?_)
      · have hw := hw.1 c7
        refine lv_iconst (v := 0) hx hb dX0_canSend_26 (by decide) ?_
        exact xg_irets hx hb hr rfl hlocks hB0 hP hK hN hS dX0_canSend_27 (by decide) (by decide) hw
      · have hw := hw.2 c7
        refine lv_iconst (v := 1) hx hb dX0_canSend_22 (by decide) ?_
        refine lv_goto (tgt := 27) hx hb dX0_canSend_23 (by decide) ?_
        exact xg_irets hx hb hr rfl hlocks hB0 hP hK hN hS dX0_canSend_27 (by decide) (by decide) hw
set_option maxHeartbeats 4000000 in
set_option maxRecDepth 100000 in
theorem c_X0_lineAt (l : Launch) (hl9 : l.stackTraces = false) {B0 : Nat} {ad : Nat → Nat} {D : va_G} {T : Nat → ClassId} (hA : XA B0 ad) (p0 : Int32) {h : xH} {K : Int32 → xH → Prop} (hw : w_X0_lineAt p0 h K) : XM l yX0_lineAt wsX0_lineAt ({ frames := 0, cells := 0, slots := 0, locals := 0 } : Room) B0 ad D T h [.ref (ad (4)), .int (p0)] xei K 0 0 := by
  unfold XM
  refine Met.ofW (cc := cX0_lineAt) (maxL := 2) (ret := (some .int)) (by decide) rfl ?_
  intro p e s m args below meth c s₁ B hml hv
  obtain ⟨rfl, hB0, hP, hK, hN⟩ := hv
  have hx := B.exec
  have hb := B.bytes
  have hr := B.returns
  have hts := atoms_spec (ws := wsX0_lineAt) B.pre
  have hown : s.vm.findClass RX0 = some m.cls := findClass_of_methodNamed B.named
  have hlocks := B.notSynchronized
  have iX0 : ∀ w ∈ u_ws RX0 TX0 6, w ∈ wsX0_lineAt := by decide +kernel
  have f_9 := hts (.fieldLink RX0 9 "LogSpooler$Forwarder" "row" "[I") (by decide +kernel)
  have hS : va_S (fun q => B0 ≤ q) s.heap s.heap [] := va_S.rf
  have hl := lv_entry ([.ref (ad (4)), .int (p0)]) (n := 2) (Nat.le_of_ble_eq_true rfl)
  rw [lg_entry_eq]
  generalize (lg_sl ([.ref (ad (4)), .int (p0)]) ++ List.replicate (2 - (lg_sl ([.ref (ad (4)), .int (p0)])).length) Slot.unset).toArray = ls at hl ⊢
  have hl : lv_has ls 2 [(0, .ref (ad (4))), (1, .int (p0))] := hl
  unfold w_X0_lineAt at hw
  refine lv_iload_n hx hb dX0_lineAt_0 rfl (lv_at hl 1 rfl) ?_
  refine lv_if_lt (tgt := 22) hx hb dX0_lineAt_1 (by decide) (fun c1 => ?_) (fun c1 => ?_)
  · have hw := hw.1 c1
    refine lv_iconst (v := (-1)) hx hb dX0_lineAt_22 (by decide) ?_
    exact xg_irets hx hb hr rfl hlocks hB0 hP hK hN hS dX0_lineAt_23 (by decide) (by decide) hw
  · have hw := hw.2 c1
    refine lv_iload_n hx hb dX0_lineAt_4 rfl (lv_at hl 1 rfl) ?_
    refine lv_aload_n hx hb dX0_lineAt_5 rfl (lv_at hl 0 rfl) ?_
    refine xg_getr (C := RX0) (TC := TX0) (N := 6) hx hb hts iX0 hown hK hP xs4 rfl 0 (by decide) f_9 (fun _ h9 => h9) rfl dX0_lineAt_6 ?_
    refine xg_alen (v := 400) hx hb hK hP xs5 rfl dX0_lineAt_9 ?_
    refine lv_icmp_ge (tgt := 22) hx hb dX0_lineAt_10 (by decide) (fun c2 => ?_) (fun c2 => ?_)
    · have hw := hw.1 c2
      refine lv_iconst (v := (-1)) hx hb dX0_lineAt_22 (by decide) ?_
      exact xg_irets hx hb hr rfl hlocks hB0 hP hK hN hS dX0_lineAt_23 (by decide) (by decide) hw
    · have hw := hw.2 c2
      refine lv_aload_n hx hb dX0_lineAt_13 rfl (lv_at hl 0 rfl) ?_
      refine xg_getr (C := RX0) (TC := TX0) (N := 6) hx hb hts iX0 hown hK hP xs4 rfl 0 (by decide) f_9 (fun _ h9 => h9) rfl dX0_lineAt_14 ?_
      refine lv_iload_n hx hb dX0_lineAt_17 rfl (lv_at hl 1 rfl) ?_
      obtain ⟨hi3, hw⟩ := hw
      refine xg_iald hx hb hK hP xs5 hi3 dX0_lineAt_18 ?_
      refine lv_goto (tgt := 23) hx hb dX0_lineAt_19 (by decide) ?_
      exact xg_irets hx hb hr rfl hlocks hB0 hP hK hN hS dX0_lineAt_23 (by decide) (by decide) hw
set_option maxHeartbeats 4000000 in
set_option maxRecDepth 100000 in
theorem c_X0_sendFirst (l : Launch) (hl9 : l.stackTraces = false) {B0 : Nat} {ad : Nat → Nat} {D : va_G} {T : Nat → ClassId} (hA : XA B0 ad) {h : xH} {K : Int32 → xH → Prop} (hw : w_X0_sendFirst h K) : XM l yX0_sendFirst wsX0_sendFirst ({ frames := 1, cells := 0, slots := 0, locals := 21 } : Room) B0 ad D T h [.ref (ad (4))] xei K 0 0 := by
  unfold XM
  refine Met.ofW (cc := cX0_sendFirst) (maxL := 2) (ret := (some .int)) (by decide) rfl ?_
  intro p e s m args below meth c s₁ B hml hv
  obtain ⟨rfl, hB0, hP, hK, hN⟩ := hv
  have hx := B.exec
  have hb := B.bytes
  have hr := B.returns
  have hts := atoms_spec (ws := wsX0_sendFirst) B.pre
  have hown : s.vm.findClass RX0 = some m.cls := findClass_of_methodNamed B.named
  have hlocks := B.notSynchronized
  have iX0 : ∀ w ∈ u_ws RX0 TX0 6, w ∈ wsX0_sendFirst := by decide +kernel
  have f_19 := hts (.fieldLink RX0 19 "LogSpooler$Forwarder" "firstQueued" "I") (by decide +kernel)
  have hS : va_S (fun q => B0 ≤ q) s.heap s.heap [] := va_S.rf
  have hl := lv_entry ([.ref (ad (4))]) (n := 2) (Nat.le_of_ble_eq_true rfl)
  rw [lg_entry_eq]
  generalize (lg_sl ([.ref (ad (4))]) ++ List.replicate (2 - (lg_sl ([.ref (ad (4))])).length) Slot.unset).toArray = ls at hl ⊢
  have hl : lv_has ls 2 [(0, .ref (ad (4)))] := hl
  unfold w_X0_sendFirst at hw
  refine lv_aload_n hx hb dX0_sendFirst_0 rfl (lv_at hl 0 rfl) ?_
  refine lv_aload_n hx hb dX0_sendFirst_1 rfl (lv_at hl 0 rfl) ?_
  refine xg_get (C := RX0) (TC := TX0) (N := 6) hx hb hts iX0 hown hK hP xs4 rfl 2 (by decide) f_19 (fun _ h9 => h9) rfl dX0_sendFirst_2 ?_
  refine xg_calli (va_runV (As := [.int ((h 4 2))]) (rest := []) ⟨hx, hb, hml, hown, hts⟩ (c_X0_lineAt l hl9 hA (h 4 2) hw) (cwV 1 hts gX0_sendFirst_X0_lineAt rfl rfl rfl (by decide +kernel) ⟨Nat.le_of_ble_eq_true rfl, Nat.le_of_ble_eq_true rfl⟩) (xg_preV hB0 hP hK hN hS xs4 rfl) rfl rfl hl.1 rfl (lv_room (Nat.le_of_ble_eq_true rfl)) dX0_sendFirst_5 ⟨Nat.le_of_ble_eq_true rfl, Nat.le_of_ble_eq_true rfl⟩) hS (fun r1 h2 H locs hw hP hS => ?_)
  refine lv_istore_n (lv' := [(1, .int (r1)), (0, .ref (ad (4)))]) hx hb dX0_sendFirst_8 rfl hl (by decide) rfl (fun ls hl => ?_)
  refine lv_aload_n hx hb dX0_sendFirst_9 rfl (lv_at hl 1 rfl) ?_
  refine lv_dup hx hb dX0_sendFirst_10 rfl ?_
  refine xg_get (C := RX0) (TC := TX0) (N := 6) hx hb hts iX0 hown hK hP xs4 rfl 2 (by decide) f_19 (fun _ h9 => h9) rfl dX0_sendFirst_11 ?_
  refine lv_iconst (v := 1) hx hb dX0_sendFirst_14 (by decide) ?_
  refine lv_iadd hx hb dX0_sendFirst_15 ?_
  refine xg_put (C := RX0) (TC := TX0) (N := 6) hx hb hts iX0 tyX0 tyX0_ok nmX0 hown hK hP hA hS xs4 rfl 2 (by decide) f_19 (fun _ h9 => h9) rfl rfl (ty := .int) (by decide +kernel) rfl rfl dX0_sendFirst_16 (fun H locs h3 eh3 hP hS => ?_)
  have hw := hw h3 eh3
  refine lv_iload_n hx hb dX0_sendFirst_19 rfl (lv_at hl 0 rfl) ?_
  exact xg_irets hx hb hr rfl hlocks hB0 hP hK hN hS dX0_sendFirst_20 (by decide) (by decide) hw
set_option maxHeartbeats 4000000 in
set_option maxRecDepth 100000 in
theorem c_X0_acknowledgeFirst (l : Launch) (hl9 : l.stackTraces = false) {B0 : Nat} {ad : Nat → Nat} {D : va_G} {T : Nat → ClassId} (hA : XA B0 ad) {h : xH} {K : Int32 → xH → Prop} (hw : w_X0_acknowledgeFirst h K) : XM l yX0_acknowledgeFirst wsX0_acknowledgeFirst ({ frames := 1, cells := 0, slots := 0, locals := 21 } : Room) B0 ad D T h [.ref (ad (4))] xei K 0 0 := by
  unfold XM
  refine Met.ofW (cc := cX0_acknowledgeFirst) (maxL := 2) (ret := (some .int)) (by decide) rfl ?_
  intro p e s m args below meth c s₁ B hml hv
  obtain ⟨rfl, hB0, hP, hK, hN⟩ := hv
  have hx := B.exec
  have hb := B.bytes
  have hr := B.returns
  have hts := atoms_spec (ws := wsX0_acknowledgeFirst) B.pre
  have hown : s.vm.findClass RX0 = some m.cls := findClass_of_methodNamed B.named
  have hlocks := B.notSynchronized
  have iX0 : ∀ w ∈ u_ws RX0 TX0 6, w ∈ wsX0_acknowledgeFirst := by decide +kernel
  have f_22 := hts (.fieldLink RX0 22 "LogSpooler$Forwarder" "acknowledgedOnes" "I") (by decide +kernel)
  have hS : va_S (fun q => B0 ≤ q) s.heap s.heap [] := va_S.rf
  have hl := lv_entry ([.ref (ad (4))]) (n := 2) (Nat.le_of_ble_eq_true rfl)
  rw [lg_entry_eq]
  generalize (lg_sl ([.ref (ad (4))]) ++ List.replicate (2 - (lg_sl ([.ref (ad (4))])).length) Slot.unset).toArray = ls at hl ⊢
  have hl : lv_has ls 2 [(0, .ref (ad (4)))] := hl
  unfold w_X0_acknowledgeFirst at hw
  refine lv_aload_n hx hb dX0_acknowledgeFirst_0 rfl (lv_at hl 0 rfl) ?_
  refine lv_aload_n hx hb dX0_acknowledgeFirst_1 rfl (lv_at hl 0 rfl) ?_
  refine xg_get (C := RX0) (TC := TX0) (N := 6) hx hb hts iX0 hown hK hP xs4 rfl 3 (by decide) f_22 (fun _ h9 => h9) rfl dX0_acknowledgeFirst_2 ?_
  refine xg_calli (va_runV (As := [.int ((h 4 3))]) (rest := []) ⟨hx, hb, hml, hown, hts⟩ (c_X0_lineAt l hl9 hA (h 4 3) hw) (cwV 1 hts gX0_acknowledgeFirst_X0_lineAt rfl rfl rfl (by decide +kernel) ⟨Nat.le_of_ble_eq_true rfl, Nat.le_of_ble_eq_true rfl⟩) (xg_preV hB0 hP hK hN hS xs4 rfl) rfl rfl hl.1 rfl (lv_room (Nat.le_of_ble_eq_true rfl)) dX0_acknowledgeFirst_5 ⟨Nat.le_of_ble_eq_true rfl, Nat.le_of_ble_eq_true rfl⟩) hS (fun r1 h2 H locs hw hP hS => ?_)
  refine lv_istore_n (lv' := [(1, .int (r1)), (0, .ref (ad (4)))]) hx hb dX0_acknowledgeFirst_8 rfl hl (by decide) rfl (fun ls hl => ?_)
  refine lv_aload_n hx hb dX0_acknowledgeFirst_9 rfl (lv_at hl 1 rfl) ?_
  refine lv_dup hx hb dX0_acknowledgeFirst_10 rfl ?_
  refine xg_get (C := RX0) (TC := TX0) (N := 6) hx hb hts iX0 hown hK hP xs4 rfl 3 (by decide) f_22 (fun _ h9 => h9) rfl dX0_acknowledgeFirst_11 ?_
  refine lv_iconst (v := 1) hx hb dX0_acknowledgeFirst_14 (by decide) ?_
  refine lv_iadd hx hb dX0_acknowledgeFirst_15 ?_
  refine xg_put (C := RX0) (TC := TX0) (N := 6) hx hb hts iX0 tyX0 tyX0_ok nmX0 hown hK hP hA hS xs4 rfl 3 (by decide) f_22 (fun _ h9 => h9) rfl rfl (ty := .int) (by decide +kernel) rfl rfl dX0_acknowledgeFirst_16 (fun H locs h3 eh3 hP hS => ?_)
  have hw := hw h3 eh3
  refine lv_iload_n hx hb dX0_acknowledgeFirst_19 rfl (lv_at hl 0 rfl) ?_
  exact xg_irets hx hb hr rfl hlocks hB0 hP hK hN hS dX0_acknowledgeFirst_20 (by decide) (by decide) hw
set_option maxHeartbeats 4000000 in
set_option maxRecDepth 100000 in
theorem c_X0_loseConnection (l : Launch) (hl9 : l.stackTraces = false) {B0 : Nat} {ad : Nat → Nat} {D : va_G} {T : Nat → ClassId} (hA : XA B0 ad) {h : xH} {K : Unit → xH → Prop} (hw : w_X0_loseConnection h K) : XM l yX0_loseConnection wsX0_loseConnection ({ frames := 0, cells := 0, slots := 0, locals := 0 } : Room) B0 ad D T h [.ref (ad (4))] xev K 0 0 := by
  unfold XM
  refine Met.ofW (cc := cX0_loseConnection) (maxL := 1) (ret := none) (by decide) rfl ?_
  intro p e s m args below meth c s₁ B hml hv
  obtain ⟨rfl, hB0, hP, hK, hN⟩ := hv
  have hx := B.exec
  have hb := B.bytes
  have hr := B.returns
  have hts := atoms_spec (ws := wsX0_loseConnection) B.pre
  have hown : s.vm.findClass RX0 = some m.cls := findClass_of_methodNamed B.named
  have hlocks := B.notSynchronized
  have iX0 : ∀ w ∈ u_ws RX0 TX0 6, w ∈ wsX0_loseConnection := by decide +kernel
  have f_19 := hts (.fieldLink RX0 19 "LogSpooler$Forwarder" "firstQueued" "I") (by decide +kernel)
  have f_22 := hts (.fieldLink RX0 22 "LogSpooler$Forwarder" "acknowledgedOnes" "I") (by decide +kernel)
  have f_28 := hts (.fieldLink RX0 28 "LogSpooler$Forwarder" "isConnected" "Z") (by decide +kernel)
  have hS : va_S (fun q => B0 ≤ q) s.heap s.heap [] := va_S.rf
  have hl := lv_entry ([.ref (ad (4))]) (n := 1) (Nat.le_of_ble_eq_true rfl)
  rw [lg_entry_eq]
  generalize (lg_sl ([.ref (ad (4))]) ++ List.replicate (1 - (lg_sl ([.ref (ad (4))])).length) Slot.unset).toArray = ls at hl ⊢
  have hl : lv_has ls 1 [(0, .ref (ad (4)))] := hl
  unfold w_X0_loseConnection at hw
  refine lv_aload_n hx hb dX0_loseConnection_0 rfl (lv_at hl 0 rfl) ?_
  refine lv_iconst (v := 0) hx hb dX0_loseConnection_1 (by decide) ?_
  refine xg_put (C := RX0) (TC := TX0) (N := 6) hx hb hts iX0 tyX0 tyX0_ok nmX0 hown hK hP hA hS xs4 rfl 5 (by decide) f_28 (fun _ h9 => h9) rfl rfl (ty := .boolean) (by decide +kernel) rfl rfl dX0_loseConnection_2 (fun H locs h1 eh1 hP hS => ?_)
  have hw := hw h1 eh1
  refine lv_aload_n hx hb dX0_loseConnection_5 rfl (lv_at hl 0 rfl) ?_
  refine lv_aload_n hx hb dX0_loseConnection_6 rfl (lv_at hl 0 rfl) ?_
  refine xg_get (C := RX0) (TC := TX0) (N := 6) hx hb hts iX0 hown hK hP xs4 rfl 3 (by decide) f_22 (fun _ h9 => h9) rfl dX0_loseConnection_7 ?_
  refine xg_put (C := RX0) (TC := TX0) (N := 6) hx hb hts iX0 tyX0 tyX0_ok nmX0 hown hK hP hA hS xs4 rfl 2 (by decide) f_19 (fun _ h9 => h9) rfl rfl (ty := .int) (by decide +kernel) rfl rfl dX0_loseConnection_10 (fun H locs h2 eh2 hP hS => ?_)
  have hw := hw h2 eh2
  exact xg_vrets hx hb hr hlocks hB0 hP hK hN hS dX0_loseConnection_13 (by decide) (by decide) hw
set_option maxHeartbeats 4000000 in
set_option maxRecDepth 100000 in
theorem c_X1_isFull (l : Launch) (hl9 : l.stackTraces = false) {B0 : Nat} {ad : Nat → Nat} {D : va_G} {T : Nat → ClassId} (hA : XA B0 ad) {h : xH} {K : Int32 → xH → Prop} (hw : w_X1_isFull h K) : XM l yX1_isFull wsX1_isFull ({ frames := 0, cells := 0, slots := 0, locals := 0 } : Room) B0 ad D T h [.ref (ad (6))] xei K 0 0 := by
  unfold XM
  refine Met.ofW (cc := cX1_isFull) (maxL := 1) (ret := (some .boolean)) (by decide) rfl ?_
  intro p e s m args below meth c s₁ B hml hv
  obtain ⟨rfl, hB0, hP, hK, hN⟩ := hv
  have hx := B.exec
  have hb := B.bytes
  have hr := B.returns
  have hts := atoms_spec (ws := wsX1_isFull) B.pre
  have hown : s.vm.findClass RX1 = some m.cls := findClass_of_methodNamed B.named
  have hlocks := B.notSynchronized
  have iX1 : ∀ w ∈ u_ws RX1 TX1 3, w ∈ wsX1_isFull := by decide +kernel
  have f_18 := hts (.fieldLink RX1 18 "LogSpooler$Ledger" "entries" "I") (by decide +kernel)
  have hS : va_S (fun q => B0 ≤ q) s.heap s.heap [] := va_S.rf
  have hl := lv_entry ([.ref (ad (6))]) (n := 1) (Nat.le_of_ble_eq_true rfl)
  rw [lg_entry_eq]
  generalize (lg_sl ([.ref (ad (6))]) ++ List.replicate (1 - (lg_sl ([.ref (ad (6))])).length) Slot.unset).toArray = ls at hl ⊢
  have hl : lv_has ls 1 [(0, .ref (ad (6)))] := hl
  unfold w_X1_isFull at hw
  refine lv_aload_n hx hb dX1_isFull_0 rfl (lv_at hl 0 rfl) ?_
  refine xg_get (C := RX1) (TC := TX1) (N := 3) hx hb hts iX1 hown hK hP xs6 rfl 2 (by decide) f_18 (fun _ h9 => h9) rfl dX1_isFull_1 ?_
  refine lv_sipush (v := 400) hx hb dX1_isFull_4 (by decide) ?_
  refine lv_icmp_lt (tgt := 14) hx hb dX1_isFull_7 (by decide) (fun c1 => ?_) (fun c1 => ?_)
  · have hw := hw.1 c1
    refine lv_iconst (v := 0) hx hb dX1_isFull_14 (by decide) ?_
    exact xg_irets hx hb hr rfl hlocks hB0 hP hK hN hS dX1_isFull_15 (by decide) (by decide) hw
  · have hw := hw.2 c1
    refine lv_iconst (v := 1) hx hb dX1_isFull_10 (by decide) ?_
    refine lv_goto (tgt := 15) hx hb dX1_isFull_11 (by decide) ?_
    exact xg_irets hx hb hr rfl hlocks hB0 hP hK hN hS dX1_isFull_15 (by decide) (by decide) hw
set_option maxHeartbeats 4000000 in
set_option maxRecDepth 100000 in
theorem c_X1_has (l : Launch) (hl9 : l.stackTraces = false) {B0 : Nat} {ad : Nat → Nat} {D : va_G} {T : Nat → ClassId} (hA : XA B0 ad) (p0 : Int32) {h : xH} {K : Int32 → xH → Prop} (hw : w_X1_has p0 h K) : XM l yX1_has wsX1_has ({ frames := 0, cells := 0, slots := 0, locals := 0 } : Room) B0 ad D T h [.ref (ad (6)), .int (p0)] xei K 0 0 := by
  unfold XM
  refine Met.ofW (cc := cX1_has) (maxL := 2) (ret := (some .boolean)) (by decide) rfl ?_
  intro p e s m args below meth c s₁ B hml hv
  obtain ⟨rfl, hB0, hP, hK, hN⟩ := hv
  have hx := B.exec
  have hb := B.bytes
  have hr := B.returns
  have hts := atoms_spec (ws := wsX1_has) B.pre
  have hown : s.vm.findClass RX1 = some m.cls := findClass_of_methodNamed B.named
  have hlocks := B.notSynchronized
  have iX1 : ∀ w ∈ u_ws RX1 TX1 3, w ∈ wsX1_has := by decide +kernel
  have f_18 := hts (.fieldLink RX1 18 "LogSpooler$Ledger" "entries" "I") (by decide +kernel)
  have hS : va_S (fun q => B0 ≤ q) s.heap s.heap [] := va_S.rf
  have hl := lv_entry ([.ref (ad (6)), .int (p0)]) (n := 2) (Nat.le_of_ble_eq_true rfl)
  rw [lg_entry_eq]
  generalize (lg_sl ([.ref (ad (6)), .int (p0)]) ++ List.replicate (2 - (lg_sl ([.ref (ad (6)), .int (p0)])).length) Slot.unset).toArray = ls at hl ⊢
  have hl : lv_has ls 2 [(0, .ref (ad (6))), (1, .int (p0))] := hl
  unfold w_X1_has at hw
  refine lv_iload_n hx hb dX1_has_0 rfl (lv_at hl 1 rfl) ?_
  refine lv_if_lt (tgt := 16) hx hb dX1_has_1 (by decide) (fun c1 => ?_) (fun c1 => ?_)
  · have hw := hw.1 c1
    refine lv_iconst (v := 0) hx hb dX1_has_16 (by decide) ?_
    exact xg_irets hx hb hr rfl hlocks hB0 hP hK hN hS dX1_has_17 (by decide) (by decide) hw
  · have hw := hw.2 c1
    refine lv_iload_n hx hb dX1_has_4 rfl (lv_at hl 1 rfl) ?_
    refine lv_aload_n hx hb dX1_has_5 rfl (lv_at hl 0 rfl) ?_
    refine xg_get (C := RX1) (TC := TX1) (N := 3) hx hb hts iX1 hown hK hP xs6 rfl 2 (by decide) f_18 (fun _ h9 => h9) rfl dX1_has_6 ?_
    refine lv_icmp_ge (tgt := 16) hx hb dX1_has_9 (by decide) (fun c2 => ?_) (fun c2 => ?_)
    · have hw := hw.1 c2
      refine lv_iconst (v := 0) hx hb dX1_has_16 (by decide) ?_
      exact xg_irets hx hb hr rfl hlocks hB0 hP hK hN hS dX1_has_17 (by decide) (by decide) hw
    · have hw := hw.2 c2
      refine lv_iconst (v := 1) hx hb dX1_has_12 (by decide) ?_
      refine lv_goto (tgt := 17) hx hb dX1_has_13 (by decide) ?_
      exact xg_irets hx hb hr rfl hlocks hB0 hP hK hN hS dX1_has_17 (by decide) (by decide) hw
set_option maxHeartbeats 4000000 in
set_option maxRecDepth 100000 in
theorem c_X1_enter (l : Launch) (hl9 : l.stackTraces = false) {B0 : Nat} {ad : Nat → Nat} {D : va_G} {T : Nat → ClassId} (hA : XA B0 ad) (p0 : Int32) (p1 : Int32) {h : xH} {K : Int32 → xH → Prop} (hw : w_X1_enter p0 p1 h K) : XM l yX1_enter wsX1_enter ({ frames := 0, cells := 0, slots := 0, locals := 0 } : Room) B0 ad D T h [.ref (ad (6)), .int (p0), .int (p1)] xei K 0 0 := by
  unfold XM
  refine Met.ofW (cc := cX1_enter) (maxL := 3) (ret := (some .int)) (by decide) rfl ?_
  intro p e s m args below meth c s₁ B hml hv
  obtain ⟨rfl, hB0, hP, hK, hN⟩ := hv
  have hx := B.exec
  have hb := B.bytes
  have hr := B.returns
  have hts := atoms_spec (ws := wsX1_enter) B.pre
  have hown : s.vm.findClass RX1 = some m.cls := findClass_of_methodNamed B.named
  have hlocks := B.notSynchronized
  have iX1 : ∀ w ∈ u_ws RX1 TX1 3, w ∈ wsX1_enter := by decide +kernel
  have f_9 := hts (.fieldLink RX1 9 "LogSpooler$Ledger" "fates" "[I") (by decide +kernel)
  have f_15 := hts (.fieldLink RX1 15 "LogSpooler$Ledger" "targetSets" "[I") (by decide +kernel)
  have f_18 := hts (.fieldLink RX1 18 "LogSpooler$Ledger" "entries" "I") (by decide +kernel)
  have hS : va_S (fun q => B0 ≤ q) s.heap s.heap [] := va_S.rf
  have hl := lv_entry ([.ref (ad (6)), .int (p0), .int (p1)]) (n := 3) (Nat.le_of_ble_eq_true rfl)
  rw [lg_entry_eq]
  generalize (lg_sl ([.ref (ad (6)), .int (p0), .int (p1)]) ++ List.replicate (3 - (lg_sl ([.ref (ad (6)), .int (p0), .int (p1)])).length) Slot.unset).toArray = ls at hl ⊢
  have hl : lv_has ls 3 [(0, .ref (ad (6))), (1, .int (p0)), (2, .int (p1))] := hl
  unfold w_X1_enter at hw
  refine lv_aload_n hx hb dX1_enter_0 rfl (lv_at hl 0 rfl) ?_
  refine xg_get (C := RX1) (TC := TX1) (N := 3) hx hb hts iX1 hown hK hP xs6 rfl 2 (by decide) f_18 (fun _ h9 => h9) rfl dX1_enter_1 ?_
  refine lv_if_lt (tgt := 47) hx hb dX1_enter_4 (by decide) (fun c1 => ?_) (fun c1 => ?_)
  · have hw := hw.1 c1
    refine lv_iload_n hx hb dX1_enter_47 rfl (lv_at hl 1 rfl) ?_
    exact xg_irets hx hb hr rfl hlocks hB0 hP hK hN hS dX1_enter_48 (by decide) (by decide) hw
  · have hw := hw.2 c1
    refine lv_aload_n hx hb dX1_enter_7 rfl (lv_at hl 0 rfl) ?_
    refine xg_get (C := RX1) (TC := TX1) (N := 3) hx hb hts iX1 hown hK hP xs6 rfl 2 (by decide) f_18 (fun _ h9 => h9) rfl dX1_enter_8 ?_
    refine lv_sipush (v := 400) hx hb dX1_enter_11 (by decide) ?_
    refine lv_icmp_ge (tgt := 47) hx hb dX1_enter_14 (by decide) (fun c2 => ?_) (fun c2 => ?_)
    · have hw := hw.1 c2
      refine lv_iload_n hx hb dX1_enter_47 rfl (lv_at hl 1 rfl) ?_
      exact xg_irets hx hb hr rfl hlocks hB0 hP hK hN hS dX1_enter_48 (by decide) (by decide) hw
    · have hw := hw.2 c2
      refine lv_aload_n hx hb dX1_enter_17 rfl (lv_at hl 0 rfl) ?_
      refine xg_getr (C := RX1) (TC := TX1) (N := 3) hx hb hts iX1 hown hK hP xs6 rfl 0 (by decide) f_9 (fun _ h9 => h9) rfl dX1_enter_18 ?_
      refine lv_aload_n hx hb dX1_enter_21 rfl (lv_at hl 0 rfl) ?_
      refine xg_get (C := RX1) (TC := TX1) (N := 3) hx hb hts iX1 hown hK hP xs6 rfl 2 (by decide) f_18 (fun _ h9 => h9) rfl dX1_enter_22 ?_
      refine lv_iload_n hx hb dX1_enter_25 rfl (lv_at hl 1 rfl) ?_
      obtain ⟨hi3, hw⟩ := hw
      refine xg_iast hx hb hK hP hA hS xs7 hi3 dX1_enter_26 (fun H locs h4 eh4 hP hS => ?_)
      have hw := hw h4 eh4
      refine lv_aload_n hx hb dX1_enter_27 rfl (lv_at hl 0 rfl) ?_
      refine xg_getr (C := RX1) (TC := TX1) (N := 3) hx hb hts iX1 hown hK hP xs6 rfl 1 (by decide) f_15 (fun _ h9 => h9) rfl dX1_enter_28 ?_
      refine lv_aload_n hx hb dX1_enter_31 rfl (lv_at hl 0 rfl) ?_
      refine xg_get (C := RX1) (TC := TX1) (N := 3) hx hb hts iX1 hown hK hP xs6 rfl 2 (by decide) f_18 (fun _ h9 => h9) rfl dX1_enter_32 ?_
      refine lv_iload_n hx hb dX1_enter_35 rfl (lv_at hl 2 rfl) ?_
      obtain ⟨hi5, hw⟩ := hw
      refine xg_iast hx hb hK hP hA hS xs8 hi5 dX1_enter_36 (fun H locs h6 eh6 hP hS => ?_)
      have hw := hw h6 eh6
      refine lv_aload_n hx hb dX1_enter_37 rfl (lv_at hl 0 rfl) ?_
      refine lv_dup hx hb dX1_enter_38 rfl ?_
      refine xg_get (C := RX1) (TC := TX1) (N := 3) hx hb hts iX1 hown hK hP xs6 rfl 2 (by decide) f_18 (fun _ h9 => h9) rfl dX1_enter_39 ?_
      refine lv_iconst (v := 1) hx hb dX1_enter_42 (by decide) ?_
      refine lv_iadd hx hb dX1_enter_43 ?_
      refine xg_put (C := RX1) (TC := TX1) (N := 3) hx hb hts iX1 tyX1 tyX1_ok nmX1 hown hK hP hA hS xs6 rfl 2 (by decide) f_18 (fun _ h9 => h9) rfl rfl (ty := .int) (by decide +kernel) rfl rfl dX1_enter_44 (fun H locs h7 eh7 hP hS => ?_)
      have hw := hw h7 eh7
      refine lv_iload_n hx hb dX1_enter_47 rfl (lv_at hl 1 rfl) ?_
      exact xg_irets hx hb hr rfl hlocks hB0 hP hK hN hS dX1_enter_48 (by decide) (by decide) hw
set_option maxHeartbeats 4000000 in
set_option maxRecDepth 100000 in
theorem c_X1_fateAt (l : Launch) (hl9 : l.stackTraces = false) {B0 : Nat} {ad : Nat → Nat} {D : va_G} {T : Nat → ClassId} (hA : XA B0 ad) (p0 : Int32) {h : xH} {K : Int32 → xH → Prop} (hw : w_X1_fateAt p0 h K) : XM l yX1_fateAt wsX1_fateAt ({ frames := 0, cells := 0, slots := 0, locals := 0 } : Room) B0 ad D T h [.ref (ad (6)), .int (p0)] xei K 0 0 := by
  unfold XM
  refine Met.ofW (cc := cX1_fateAt) (maxL := 2) (ret := (some .int)) (by decide) rfl ?_
  intro p e s m args below meth c s₁ B hml hv
  obtain ⟨rfl, hB0, hP, hK, hN⟩ := hv
  have hx := B.exec
  have hb := B.bytes
  have hr := B.returns
  have hts := atoms_spec (ws := wsX1_fateAt) B.pre
  have hown : s.vm.findClass RX1 = some m.cls := findClass_of_methodNamed B.named
  have hlocks := B.notSynchronized
  have iX1 : ∀ w ∈ u_ws RX1 TX1 3, w ∈ wsX1_fateAt := by decide +kernel
  have f_9 := hts (.fieldLink RX1 9 "LogSpooler$Ledger" "fates" "[I") (by decide +kernel)
  have hS : va_S (fun q => B0 ≤ q) s.heap s.heap [] := va_S.rf
  have hl := lv_entry ([.ref (ad (6)), .int (p0)]) (n := 2) (Nat.le_of_ble_eq_true rfl)
  rw [lg_entry_eq]
  generalize (lg_sl ([.ref (ad (6)), .int (p0)]) ++ List.replicate (2 - (lg_sl ([.ref (ad (6)), .int (p0)])).length) Slot.unset).toArray = ls at hl ⊢
  have hl : lv_has ls 2 [(0, .ref (ad (6))), (1, .int (p0))] := hl
  unfold w_X1_fateAt at hw
  refine lv_iload_n hx hb dX1_fateAt_0 rfl (lv_at hl 1 rfl) ?_
  refine lv_if_lt (tgt := 20) hx hb dX1_fateAt_1 (by decide) (fun c1 => ?_) (fun c1 => ?_)
  · have hw := hw.1 c1
    refine lv_iconst (v := (-1)) hx hb dX1_fateAt_20 (by decide) ?_
    exact xg_irets hx hb hr rfl hlocks hB0 hP hK hN hS dX1_fateAt_21 (by decide) (by decide) hw
  · have hw := hw.2 c1
    refine lv_iload_n hx hb dX1_fateAt_4 rfl (lv_at hl 1 rfl) ?_
    refine lv_sipush (v := 400) hx hb dX1_fateAt_5 (by decide) ?_
    refine lv_icmp_ge (tgt := 20) hx hb dX1_fateAt_8 (by decide) (fun c2 => ?_) (fun c2 => ?_)
    · have hw := hw.1 c2
      refine lv_iconst (v := (-1)) hx hb dX1_fateAt_20 (by decide) ?_
      exact xg_irets hx hb hr rfl hlocks hB0 hP hK hN hS dX1_fateAt_21 (by decide) (by decide) hw
    · have hw := hw.2 c2
      refine lv_aload_n hx hb dX1_fateAt_11 rfl (lv_at hl 0 rfl) ?_
      refine xg_getr (C := RX1) (TC := TX1) (N := 3) hx hb hts iX1 hown hK hP xs6 rfl 0 (by decide) f_9 (fun _ h9 => h9) rfl dX1_fateAt_12 ?_
      refine lv_iload_n hx hb dX1_fateAt_15 rfl (lv_at hl 1 rfl) ?_
      obtain ⟨hi3, hw⟩ := hw
      refine xg_iald hx hb hK hP xs7 hi3 dX1_fateAt_16 ?_
      refine lv_goto (tgt := 21) hx hb dX1_fateAt_17 (by decide) ?_
      exact xg_irets hx hb hr rfl hlocks hB0 hP hK hN hS dX1_fateAt_21 (by decide) (by decide) hw
set_option maxHeartbeats 4000000 in
set_option maxRecDepth 100000 in
theorem c_X1_targetsAt (l : Launch) (hl9 : l.stackTraces = false) {B0 : Nat} {ad : Nat → Nat} {D : va_G} {T : Nat → ClassId} (hA : XA B0 ad) (p0 : Int32) {h : xH} {K : Int32 → xH → Prop} (hw : w_X1_targetsAt p0 h K) : XM l yX1_targetsAt wsX1_targetsAt ({ frames := 0, cells := 0, slots := 0, locals := 0 } : Room) B0 ad D T h [.ref (ad (6)), .int (p0)] xei K 0 0 := by
  unfold XM
  refine Met.ofW (cc := cX1_targetsAt) (maxL := 2) (ret := (some .int)) (by decide) rfl ?_
  intro p e s m args below meth c s₁ B hml hv
  obtain ⟨rfl, hB0, hP, hK, hN⟩ := hv
  have hx := B.exec
  have hb := B.bytes
  have hr := B.returns
  have hts := atoms_spec (ws := wsX1_targetsAt) B.pre
  have hown : s.vm.findClass RX1 = some m.cls := findClass_of_methodNamed B.named
  have hlocks := B.notSynchronized
  have iX1 : ∀ w ∈ u_ws RX1 TX1 3, w ∈ wsX1_targetsAt := by decide +kernel
  have f_15 := hts (.fieldLink RX1 15 "LogSpooler$Ledger" "targetSets" "[I") (by decide +kernel)
  have hS : va_S (fun q => B0 ≤ q) s.heap s.heap [] := va_S.rf
  have hl := lv_entry ([.ref (ad (6)), .int (p0)]) (n := 2) (Nat.le_of_ble_eq_true rfl)
  rw [lg_entry_eq]
  generalize (lg_sl ([.ref (ad (6)), .int (p0)]) ++ List.replicate (2 - (lg_sl ([.ref (ad (6)), .int (p0)])).length) Slot.unset).toArray = ls at hl ⊢
  have hl : lv_has ls 2 [(0, .ref (ad (6))), (1, .int (p0))] := hl
  unfold w_X1_targetsAt at hw
  refine lv_iload_n hx hb dX1_targetsAt_0 rfl (lv_at hl 1 rfl) ?_
  refine lv_if_lt (tgt := 20) hx hb dX1_targetsAt_1 (by decide) (fun c1 => ?_) (fun c1 => ?_)
  · have hw := hw.1 c1
    refine lv_iconst (v := 0) hx hb dX1_targetsAt_20 (by decide) ?_
    exact xg_irets hx hb hr rfl hlocks hB0 hP hK hN hS dX1_targetsAt_21 (by decide) (by decide) hw
  · have hw := hw.2 c1
    refine lv_iload_n hx hb dX1_targetsAt_4 rfl (lv_at hl 1 rfl) ?_
    refine lv_sipush (v := 400) hx hb dX1_targetsAt_5 (by decide) ?_
    refine lv_icmp_ge (tgt := 20) hx hb dX1_targetsAt_8 (by decide) (fun c2 => ?_) (fun c2 => ?_)
    · have hw := hw.1 c2
      refine lv_iconst (v := 0) hx hb dX1_targetsAt_20 (by decide) ?_
      exact xg_irets hx hb hr rfl hlocks hB0 hP hK hN hS dX1_targetsAt_21 (by decide) (by decide) hw
    · have hw := hw.2 c2
      refine lv_aload_n hx hb dX1_targetsAt_11 rfl (lv_at hl 0 rfl) ?_
      refine xg_getr (C := RX1) (TC := TX1) (N := 3) hx hb hts iX1 hown hK hP xs6 rfl 1 (by decide) f_15 (fun _ h9 => h9) rfl dX1_targetsAt_12 ?_
      refine lv_iload_n hx hb dX1_targetsAt_15 rfl (lv_at hl 1 rfl) ?_
      obtain ⟨hi3, hw⟩ := hw
      refine xg_iald hx hb hK hP xs8 hi3 dX1_targetsAt_16 ?_
      refine lv_goto (tgt := 21) hx hb dX1_targetsAt_17 (by decide) ?_
      exact xg_irets hx hb hr rfl hlocks hB0 hP hK hN hS dX1_targetsAt_21 (by decide) (by decide) hw
set_option maxHeartbeats 4000000 in
set_option maxRecDepth 100000 in
theorem c_X1_entriesWith (l : Launch) (hl9 : l.stackTraces = false) {B0 : Nat} {ad : Nat → Nat} {D : va_G} {T : Nat → ClassId} (hA : XA B0 ad) (p0 : Int32) {h : xH} {K : Int32 → xH → Prop} (hw : w_X1_entriesWith p0 h K) : XM l yX1_entriesWith wsX1_entriesWith ({ frames := 0, cells := 0, slots := 0, locals := 0 } : Room) B0 ad D T h [.ref (ad (6)), .int (p0)] xei K 0 0 := by
  unfold XM
  refine Met.ofW (cc := cX1_entriesWith) (maxL := 4) (ret := (some .int)) (by decide) rfl ?_
  intro p e s m args below meth c s₁ B hml hv
  obtain ⟨rfl, hB0, hP, hK, hN⟩ := hv
  have hx := B.exec
  have hb := B.bytes
  have hr := B.returns
  have hts := atoms_spec (ws := wsX1_entriesWith) B.pre
  have hown : s.vm.findClass RX1 = some m.cls := findClass_of_methodNamed B.named
  have hlocks := B.notSynchronized
  have iX1 : ∀ w ∈ u_ws RX1 TX1 3, w ∈ wsX1_entriesWith := by decide +kernel
  have f_9 := hts (.fieldLink RX1 9 "LogSpooler$Ledger" "fates" "[I") (by decide +kernel)
  have f_18 := hts (.fieldLink RX1 18 "LogSpooler$Ledger" "entries" "I") (by decide +kernel)
  have hS : va_S (fun q => B0 ≤ q) s.heap s.heap [] := va_S.rf
  have hl := lv_entry ([.ref (ad (6)), .int (p0)]) (n := 4) (Nat.le_of_ble_eq_true rfl)
  rw [lg_entry_eq]
  generalize (lg_sl ([.ref (ad (6)), .int (p0)]) ++ List.replicate (4 - (lg_sl ([.ref (ad (6)), .int (p0)])).length) Slot.unset).toArray = ls at hl ⊢
  have hl : lv_has ls 4 [(0, .ref (ad (6))), (1, .int (p0))] := hl
  have j_32 : ∀ (R4 : Int32 → Int32 → xH → Prop) (hR4 : ∀ (v2 : Int32) (v3 : Int32) (h : xH) (H : Heap) (locs : List Loc) (ls : Array Slot), R4 v2 v3 h → XP ad D T h H → va_S (fun q => B0 ≤ q) s.heap H locs → lv_has ls 4 [(0, .ref (ad (6))), (1, .int (p0)), (2, .int (v2)), (3, .int (v3))] → W p l e (headSpec wsX1_entriesWith ({ frames := 0, cells := 0, slots := 0, locals := 0 } : Room)).room s m ([.ref (ad (6)), .int (p0)] : List Value).toArray below meth c H locs 0 0 (MQ below (XQ B0 ad D T xei K) ([.ref (ad (6)), .int (p0)] : List Value).toArray s 0 0 (fun q => B0 ≤ q)) (F0 m 4 ls [])) (v2 : Int32) (v3 : Int32) (h : xH) (H : Heap) (locs : List Loc) (ls : Array Slot), w_X1_entriesWith_32 p0 K R4 v2 v3 h → XP ad D T h H → va_S (fun q => B0 ≤ q) s.heap H locs → lv_has ls 4 [(0, .ref (ad (6))), (1, .int (p0)), (2, .int (v2)), (3, .int (v3))] → W p l e (headSpec wsX1_entriesWith ({ frames := 0, cells := 0, slots := 0, locals := 0 } : Room)).room s m ([.ref (ad (6)), .int (p0)] : List Value).toArray below meth c H locs 0 0 (MQ below (XQ B0 ad D T xei K) ([.ref (ad (6)), .int (p0)] : List Value).toArray s 0 0 (fun q => B0 ≤ q)) (F0 m 32 ls []) := by
    intro R4 hR4 v2 v3 h H locs ls hw hP hS hl 
    unfold w_X1_entriesWith_32 at hw
    obtain ⟨x6, ex6⟩ : ∃ z : Int32, z = v3 + 1 := ⟨_, rfl⟩
    have hw := hw x6 ex6
    refine lv_iinc (v := x6) (lv' := [(3, .int (x6)), (0, .ref (ad (6))), (1, .int (p0)), (2, .int (v2))]) hx hb dX1_entriesWith_32 hl (k := 3) rfl (by rw [ex6]; rfl) (by decide) rfl (fun ls hl => ?_)
    refine lv_goto (tgt := 4) hx hb dX1_entriesWith_35 (by decide) ?_
    exact hR4 (v2) (x6) _ _ _ _ hw hP hS (lv_sub hl [1, 2, 3, 0] rfl)
  have j_4 : ∀ (n : Nat) (v2 : Int32) (v3 : Int32) (h : xH) (H : Heap) (locs : List Loc) (ls : Array Slot), w_X1_entriesWith_4 p0 K n v2 v3 h → XP ad D T h H → va_S (fun q => B0 ≤ q) s.heap H locs → lv_has ls 4 [(0, .ref (ad (6))), (1, .int (p0)), (2, .int (v2)), (3, .int (v3))] → W p l e (headSpec wsX1_entriesWith ({ frames := 0, cells := 0, slots := 0, locals := 0 } : Room)).room s m ([.ref (ad (6)), .int (p0)] : List Value).toArray below meth c H locs 0 0 (MQ below (XQ B0 ad D T xei K) ([.ref (ad (6)), .int (p0)] : List Value).toArray s 0 0 (fun q => B0 ≤ q)) (F0 m 4 ls []) := by
    intro n
    induction n with
    | zero => intro v2 v3 h H locs ls hw; exact hw.elim
    | succ n9 ih =>
      intro v2 v3 h H locs ls hw hP hS hl 
      rw [w_X1_entriesWith_4_s] at hw
      refine lv_iload_n hx hb dX1_entriesWith_4 rfl (lv_at hl 3 rfl) ?_
      refine lv_aload_n hx hb dX1_entriesWith_5 rfl (lv_at hl 0 rfl) ?_
      refine xg_get (C := RX1) (TC := TX1) (N := 3) hx hb hts iX1 hown hK hP xs6 rfl 2 (by decide) f_18 (fun _ h9 => h9) rfl dX1_entriesWith_6 ?_
      refine lv_icmp_ge (tgt := 38) hx hb dX1_entriesWith_9 (by decide) (fun c1 => ?_) (fun c1 => ?_)
      · have hw := hw.1 c1
        refine lv_iload_n hx hb dX1_entriesWith_38 rfl (lv_at hl 2 rfl) ?_
        exact xg_irets hx hb hr rfl hlocks hB0 hP hK hN hS dX1_entriesWith_39 (by decide) (by decide) hw
      · have hw := hw.2 c1
        refine lv_iload_n hx hb dX1_entriesWith_12 rfl (lv_at hl 3 rfl) ?_
        refine lv_sipush (v := 400) hx hb dX1_entriesWith_13 (by decide) ?_
        refine lv_icmp_ge (tgt := 38) hx hb dX1_entriesWith_16 (by decide) (fun c2 => ?_) (fun c2 => ?_)
        · have hw := hw.1 c2
          refine lv_iload_n hx hb dX1_entriesWith_38 rfl (lv_at hl 2 rfl) ?_
          exact xg_irets hx hb hr rfl hlocks hB0 hP hK hN hS dX1_entriesWith_39 (by decide) (by decide) hw
        · have hw := hw.2 c2
          refine lv_aload_n hx hb dX1_entriesWith_19 rfl (lv_at hl 0 rfl) ?_
          refine xg_getr (C := RX1) (TC := TX1) (N := 3) hx hb hts iX1 hown hK hP xs6 rfl 0 (by decide) f_9 (fun _ h9 => h9) rfl dX1_entriesWith_20 ?_
          refine lv_iload_n hx hb dX1_entriesWith_23 rfl (lv_at hl 3 rfl) ?_
          obtain ⟨hi3, hw⟩ := hw
          refine xg_iald hx hb hK hP xs7 hi3 dX1_entriesWith_24 ?_
          refine lv_iload_n hx hb dX1_entriesWith_25 rfl (lv_at hl 1 rfl) ?_
          refine lv_icmp_ne (tgt := 32) hx hb dX1_entriesWith_26 (by decide) (fun c4 => ?_) (fun c4 => ?_)
          · have hw := hw.2 c4
            exact j_32 _ (ih) (v2) (v3) _ _ _ _ hw hP hS (lv_sub hl [0, 1, 2, 3] rfl)
          · have hw := hw.1 c4
            obtain ⟨x5, ex5⟩ : ∃ z : Int32, z = v2 + 1 := ⟨_, rfl⟩
            have hw := hw x5 ex5
            refine lv_iinc (v := x5) (lv' := [(2, .int (x5)), (0, .ref (ad (6))), (1, .int (p0)), (3, .int (v3))]) hx hb dX1_entriesWith_29 hl (k := 2) rfl (by rw [ex5]; rfl) (by decide) rfl (fun ls hl => ?_)
            exact j_32 _ (ih) (x5) (v3) _ _ _ _ hw hP hS (lv_sub hl [1, 2, 0, 3] rfl)
  unfold w_X1_entriesWith at hw
  refine lv_iconst (v := 0) hx hb dX1_entriesWith_0 (by decide) ?_
  refine lv_istore_n (lv' := [(2, .int (0)), (0, .ref (ad (6))), (1, .int (p0))]) hx hb dX1_entriesWith_1 rfl hl (by decide) rfl (fun ls hl => ?_)
  refine lv_iconst (v := 0) hx hb dX1_entriesWith_2 (by decide) ?_
  refine lv_istore_n (lv' := [(3, .int (0)), (2, .int (0)), (0, .ref (ad (6))), (1, .int (p0))]) hx hb dX1_entriesWith_3 rfl hl (by decide) rfl (fun ls hl => ?_)
  obtain ⟨n9, hw⟩ := hw
  exact j_4  n9 (0) (0) _ _ _ _ hw hP hS (lv_sub hl [2, 3, 1, 0] rfl)
set_option maxHeartbeats 4000000 in
set_option maxRecDepth 100000 in
theorem c_X2_limit (l : Launch) (hl9 : l.stackTraces = false) {B0 : Nat} {ad : Nat → Nat} {D : va_G} {T : Nat → ClassId} (hA : XA B0 ad) (k : Nat) (hk : 30 ≤ k ∧ k < 34) (p0 : Int32) (p1 : Int32) (p2 : Int32) {h : xH} {K : Unit → xH → Prop} (hw : w_X2_limit k p0 p1 p2 h K) : XM l yX2_limit wsX2_limit ({ frames := 0, cells := 0, slots := 0, locals := 0 } : Room) B0 ad D T h [.ref (ad (k)), .int (p0), .int (p1), .int (p2)] xev K 0 0 := by
  unfold XM
  refine Met.ofW (cc := cX2_limit) (maxL := 4) (ret := none) (by decide) rfl ?_
  intro p e s m args below meth c s₁ B hml hv
  obtain ⟨rfl, hB0, hP, hK, hN⟩ := hv
  have hx := B.exec
  have hb := B.bytes
  have hr := B.returns
  have hts := atoms_spec (ws := wsX2_limit) B.pre
  have hown : s.vm.findClass RX2 = some m.cls := findClass_of_methodNamed B.named
  have hlocks := B.notSynchronized
  have iX2 : ∀ w ∈ u_ws RX2 TX2 10, w ∈ wsX2_limit := by decide +kernel
  have f_22 := hts (.fieldLink RX2 22 "LogSpooler$LogFile" "greatestSize" "I") (by decide +kernel)
  have f_25 := hts (.fieldLink RX2 25 "LogSpooler$LogFile" "age" "I") (by decide +kernel)
  have f_28 := hts (.fieldLink RX2 28 "LogSpooler$LogFile" "kept" "I") (by decide +kernel)
  have f_37 := hts (.fieldLink RX2 37 "LogSpooler$LogFile" "olderOnes" "I") (by decide +kernel)
  have hS : va_S (fun q => B0 ≤ q) s.heap s.heap [] := va_S.rf
  have hl := lv_entry ([.ref (ad (k)), .int (p0), .int (p1), .int (p2)]) (n := 4) (Nat.le_of_ble_eq_true rfl)
  rw [lg_entry_eq]
  generalize (lg_sl ([.ref (ad (k)), .int (p0), .int (p1), .int (p2)]) ++ List.replicate (4 - (lg_sl ([.ref (ad (k)), .int (p0), .int (p1), .int (p2)])).length) Slot.unset).toArray = ls at hl ⊢
  have hl : lv_has ls 4 [(0, .ref (ad (k))), (1, .int (p0)), (2, .int (p1)), (3, .int (p2))] := hl
  unfold w_X2_limit at hw
  refine lv_aload_n hx hb dX2_limit_0 rfl (lv_at hl 0 rfl) ?_
  refine lv_iload_n hx hb dX2_limit_1 rfl (lv_at hl 1 rfl) ?_
  refine xg_put (C := RX2) (TC := TX2) (N := 10) hx hb hts iX2 tyX2 tyX2_ok nmX2 hown hK hP hA hS (xsF hk) rfl 3 (by decide) f_22 (fun _ h9 => h9) rfl rfl (ty := .int) (by decide +kernel) rfl rfl dX2_limit_2 (fun H locs h1 eh1 hP hS => ?_)
  have hw := hw h1 eh1
  refine lv_aload_n hx hb dX2_limit_5 rfl (lv_at hl 0 rfl) ?_
  refine lv_iload_n hx hb dX2_limit_6 rfl (lv_at hl 2 rfl) ?_
  refine xg_put (C := RX2) (TC := TX2) (N := 10) hx hb hts iX2 tyX2 tyX2_ok nmX2 hown hK hP hA hS (xsF hk) rfl 4 (by decide) f_25 (fun _ h9 => h9) rfl rfl (ty := .int) (by decide +kernel) rfl rfl dX2_limit_7 (fun H locs h2 eh2 hP hS => ?_)
  have hw := hw h2 eh2
  refine lv_aload_n hx hb dX2_limit_10 rfl (lv_at hl 0 rfl) ?_
  refine lv_iload_n hx hb dX2_limit_11 rfl (lv_at hl 3 rfl) ?_
  refine xg_put (C := RX2) (TC := TX2) (N := 10) hx hb hts iX2 tyX2 tyX2_ok nmX2 hown hK hP hA hS (xsF hk) rfl 5 (by decide) f_28 (fun _ h9 => h9) rfl rfl (ty := .int) (by decide +kernel) rfl rfl dX2_limit_12 (fun H locs h3 eh3 hP hS => ?_)
  have hw := hw h3 eh3
  refine lv_aload_n hx hb dX2_limit_15 rfl (lv_at hl 0 rfl) ?_
  refine xg_get (C := RX2) (TC := TX2) (N := 10) hx hb hts iX2 hown hK hP (xsF hk) rfl 8 (by decide) f_37 (fun _ h9 => h9) rfl dX2_limit_16 ?_
  refine lv_iload_n hx hb dX2_limit_19 rfl (lv_at hl 3 rfl) ?_
  refine lv_icmp_le (tgt := 28) hx hb dX2_limit_20 (by decide) (fun c4 => ?_) (fun c4 => ?_)
  · have hw := hw.1 c4
    exact xg_vrets hx hb hr hlocks hB0 hP hK hN hS dX2_limit_28 (by decide) (by decide) hw
  · have hw := hw.2 c4
    refine lv_aload_n hx hb dX2_limit_23 rfl (lv_at hl 0 rfl) ?_
    refine lv_iload_n hx hb dX2_limit_24 rfl (lv_at hl 3 rfl) ?_
    refine xg_put (C := RX2) (TC := TX2) (N := 10) hx hb hts iX2 tyX2 tyX2_ok nmX2 hown hK hP hA hS (xsF hk) rfl 8 (by decide) f_37 (fun _ h9 => h9) rfl rfl (ty := .int) (by decide +kernel) rfl rfl dX2_limit_25 (fun H locs h5 eh5 hP hS => ?_)
    have hw := hw h5 eh5
    exact xg_vrets hx hb hr hlocks hB0 hP hK hN hS dX2_limit_28 (by decide) (by decide) hw
set_option maxHeartbeats 4000000 in
set_option maxRecDepth 100000 in
theorem c_X2_isEmpty (l : Launch) (hl9 : l.stackTraces = false) {B0 : Nat} {ad : Nat → Nat} {D : va_G} {T : Nat → ClassId} (hA : XA B0 ad) (k : Nat) (hk : 30 ≤ k ∧ k < 34) {h : xH} {K : Int32 → xH → Prop} (hw : w_X2_isEmpty k h K) : XM l yX2_isEmpty wsX2_isEmpty ({ frames := 0, cells := 0, slots := 0, locals := 0 } : Room) B0 ad D T h [.ref (ad (k))] xei K 0 0 := by
  unfold XM
  refine Met.ofW (cc := cX2_isEmpty) (maxL := 1) (ret := (some .boolean)) (by decide) rfl ?_
  intro p e s m args below meth c s₁ B hml hv
  obtain ⟨rfl, hB0, hP, hK, hN⟩ := hv
  have hx := B.exec
  have hb := B.bytes
  have hr := B.returns
  have hts := atoms_spec (ws := wsX2_isEmpty) B.pre
  have hown : s.vm.findClass RX2 = some m.cls := findClass_of_methodNamed B.named
  have hlocks := B.notSynchronized
  have iX2 : ∀ w ∈ u_ws RX2 TX2 10, w ∈ wsX2_isEmpty := by decide +kernel
  have f_15 := hts (.fieldLink RX2 15 "LogSpooler$LogFile" "starts" "[I") (by decide +kernel)
  have f_18 := hts (.fieldLink RX2 18 "LogSpooler$LogFile" "end" "I") (by decide +kernel)
  have hS : va_S (fun q => B0 ≤ q) s.heap s.heap [] := va_S.rf
  have hl := lv_entry ([.ref (ad (k))]) (n := 1) (Nat.le_of_ble_eq_true rfl)
  rw [lg_entry_eq]
  generalize (lg_sl ([.ref (ad (k))]) ++ List.replicate (1 - (lg_sl ([.ref (ad (k))])).length) Slot.unset).toArray = ls at hl ⊢
  have hl : lv_has ls 1 [(0, .ref (ad (k)))] := hl
  unfold w_X2_isEmpty at hw
  refine lv_aload_n hx hb dX2_isEmpty_0 rfl (lv_at hl 0 rfl) ?_
  refine xg_get (C := RX2) (TC := TX2) (N := 10) hx hb hts iX2 hown hK hP (xsF hk) rfl 2 (by decide) f_18 (fun _ h9 => h9) rfl dX2_isEmpty_1 ?_
  refine lv_aload_n hx hb dX2_isEmpty_4 rfl (lv_at hl 0 rfl) ?_
  refine xg_getr (C := RX2) (TC := TX2) (N := 10) hx hb hts iX2 hown hK hP (xsF hk) rfl 1 (by decide) f_15 (fun _ h9 => h9) rfl dX2_isEmpty_5 ?_
  refine lv_iconst (v := 0) hx hb dX2_isEmpty_8 (by decide) ?_
  obtain ⟨hi1, hw⟩ := hw
  refine xg_iald hx hb hK hP (xsFs hk) hi1 dX2_isEmpty_9 ?_
  refine lv_icmp_ne (tgt := 17) hx hb dX2_isEmpty_10 (by decide) (fun c2 => ?_) (fun c2 => ?_)
  · have hw := hw.2 c2
    refine lv_iconst (v := 0) hx hb dX2_isEmpty_17 (by decide) ?_
    exact xg_irets hx hb hr rfl hlocks hB0 hP hK hN hS dX2_isEmpty_18 (by decide) (by decide) hw
  · have hw := hw.1 c2
    refine lv_iconst (v := 1) hx hb dX2_isEmpty_13 (by decide) ?_
    refine lv_goto (tgt := 18) hx hb dX2_isEmpty_14 (by decide) ?_
    exact xg_irets hx hb hr rfl hlocks hB0 hP hK hN hS dX2_isEmpty_18 (by decide) (by decide) hw
set_option maxHeartbeats 4000000 in
set_option maxRecDepth 100000 in
theorem c_X2_isAged (l : Launch) (hl9 : l.stackTraces = false) {B0 : Nat} {ad : Nat → Nat} {D : va_G} {T : Nat → ClassId} (hA : XA B0 ad) (k : Nat) (hk : 30 ≤ k ∧ k < 34) (p0 : Int32) {h : xH} {K : Int32 → xH → Prop} (hw : w_X2_isAged k p0 h K) : XM l yX2_isAged wsX2_isAged ({ frames := 1, cells := 0, slots := 0, locals := 20 } : Room) B0 ad D T h [.ref (ad (k)), .int (p0)] xei K 0 0 := by
  unfold XM
  refine Met.ofW (cc := cX2_isAged) (maxL := 2) (ret := (some .boolean)) (by decide) rfl ?_
  intro p e s m args below meth c s₁ B hml hv
  obtain ⟨rfl, hB0, hP, hK, hN⟩ := hv
  have hx := B.exec
  have hb := B.bytes
  have hr := B.returns
  have hts := atoms_spec (ws := wsX2_isAged) B.pre
  have hown : s.vm.findClass RX2 = some m.cls := findClass_of_methodNamed B.named
  have hlocks := B.notSynchronized
  have iX2 : ∀ w ∈ u_ws RX2 TX2 10, w ∈ wsX2_isAged := by decide +kernel
  have f_25 := hts (.fieldLink RX2 25 "LogSpooler$LogFile" "age" "I") (by decide +kernel)
  have f_31 := hts (.fieldLink RX2 31 "LogSpooler$LogFile" "firstCame" "I") (by decide +kernel)
  have hS : va_S (fun q => B0 ≤ q) s.heap s.heap [] := va_S.rf
  have hl := lv_entry ([.ref (ad (k)), .int (p0)]) (n := 2) (Nat.le_of_ble_eq_true rfl)
  rw [lg_entry_eq]
  generalize (lg_sl ([.ref (ad (k)), .int (p0)]) ++ List.replicate (2 - (lg_sl ([.ref (ad (k)), .int (p0)])).length) Slot.unset).toArray = ls at hl ⊢
  have hl : lv_has ls 2 [(0, .ref (ad (k))), (1, .int (p0))] := hl
  unfold w_X2_isAged at hw
  refine lv_aload_n hx hb dX2_isAged_0 rfl (lv_at hl 0 rfl) ?_
  refine xg_get (C := RX2) (TC := TX2) (N := 10) hx hb hts iX2 hown hK hP (xsF hk) rfl 4 (by decide) f_25 (fun _ h9 => h9) rfl dX2_isAged_1 ?_
  refine lv_if_eq (tgt := 31) hx hb dX2_isAged_4 (by decide) (fun c1 => ?_) (fun c1 => ?_)
  · have hw := hw.1 c1
    refine lv_iconst (v := 0) hx hb dX2_isAged_31 (by decide) ?_
    exact xg_irets hx hb hr rfl hlocks hB0 hP hK hN hS dX2_isAged_32 (by decide) (by decide) hw
  · have hw := hw.2 c1
    refine lv_aload_n hx hb dX2_isAged_7 rfl (lv_at hl 0 rfl) ?_
    refine xg_calli (va_runV (As := []) (rest := []) ⟨hx, hb, hml, hown, hts⟩ (c_X2_isEmpty l hl9 hA k hk hw) (cwV 0 hts gX2_isAged_X2_isEmpty rfl rfl rfl (by decide +kernel) ⟨Nat.le_of_ble_eq_true rfl, Nat.le_of_ble_eq_true rfl⟩) (xg_preV hB0 hP hK hN hS (xsF hk) rfl) rfl rfl hl.1 rfl (lv_room (Nat.le_of_ble_eq_true rfl)) dX2_isAged_8 ⟨Nat.le_of_ble_eq_true rfl, Nat.le_of_ble_eq_true rfl⟩) hS (fun r2 h3 H locs hw hP hS => ?_)
    refine lv_if_ne (tgt := 31) hx hb dX2_isAged_11 (by decide) (fun c4 => ?_) (fun c4 => ?_)
    · have hw := hw.2 c4
      refine lv_iconst (v := 0) hx hb dX2_isAged_31 (by decide) ?_
      exact xg_irets hx hb hr rfl hlocks hB0 hP hK hN hS dX2_isAged_32 (by decide) (by decide) hw
    · have hw := hw.1 c4
      refine lv_iload_n hx hb dX2_isAged_14 rfl (lv_at hl 1 rfl) ?_
      refine lv_aload_n hx hb dX2_isAged_15 rfl (lv_at hl 0 rfl) ?_
      refine xg_get (C := RX2) (TC := TX2) (N := 10) hx hb hts iX2 hown hK hP (xsF hk) rfl 6 (by decide) f_31 (fun _ h9 => h9) rfl dX2_isAged_16 ?_
      refine lv_isub hx hb dX2_isAged_19 ?_
      refine lv_aload_n hx hb dX2_isAged_20 rfl (lv_at hl 0 rfl) ?_
      refine xg_get (C := RX2) (TC := TX2) (N := 10) hx hb hts iX2 hown hK hP (xsF hk) rfl 4 (by decide) f_25 (fun _ h9 => h9) rfl dX2_isAged_21 ?_
      refine lv_icmp_lt (tgt := 31) hx hb dX2_isAged_24 (by decide) (fun c5 => ?_) (fun c5 => ?_)
      · have hw := hw.1 c5
        refine lv_iconst (v := 0) hx hb dX2_isAged_31 (by decide) ?_
        exact xg_irets hx hb hr rfl hlocks hB0 hP hK hN hS dX2_isAged_32 (by decide) (by decide) hw
      · have hw := hw.2 c5
        refine lv_iconst (v := 1) hx hb dX2_isAged_27 (by decide) ?_
        refine lv_goto (tgt := 32) hx hb dX2_isAged_28 (by decide) ?_
        exact xg_irets hx hb hr rfl hlocks hB0 hP hK hN hS dX2_isAged_32 (by decide) (by decide) hw
set_option maxHeartbeats 4000000 in
set_option maxRecDepth 100000 in
theorem c_X2_turnOver (l : Launch) (hl9 : l.stackTraces = false) {B0 : Nat} {ad : Nat → Nat} {D : va_G} {T : Nat → ClassId} (hA : XA B0 ad) (k : Nat) (hk : 30 ≤ k ∧ k < 34) {h : xH} {K : Unit → xH → Prop} (hw : w_X2_turnOver k h K) : XM l yX2_turnOver wsX2_turnOver ({ frames := 0, cells := 0, slots := 0, locals := 0 } : Room) B0 ad D T h [.ref (ad (k))] xev K 0 0 := by
  unfold XM
  refine Met.ofW (cc := cX2_turnOver) (maxL := 2) (ret := none) (by decide) rfl ?_
  intro p e s m args below meth c s₁ B hml hv
  obtain ⟨rfl, hB0, hP, hK, hN⟩ := hv
  have hx := B.exec
  have hb := B.bytes
  have hr := B.returns
  have hts := atoms_spec (ws := wsX2_turnOver) B.pre
  have hown : s.vm.findClass RX2 = some m.cls := findClass_of_methodNamed B.named
  have hlocks := B.notSynchronized
  have iX2 : ∀ w ∈ u_ws RX2 TX2 10, w ∈ wsX2_turnOver := by decide +kernel
  have f_15 := hts (.fieldLink RX2 15 "LogSpooler$LogFile" "starts" "[I") (by decide +kernel)
  have f_18 := hts (.fieldLink RX2 18 "LogSpooler$LogFile" "end" "I") (by decide +kernel)
  have f_28 := hts (.fieldLink RX2 28 "LogSpooler$LogFile" "kept" "I") (by decide +kernel)
  have f_34 := hts (.fieldLink RX2 34 "LogSpooler$LogFile" "sumOfLengths" "I") (by decide +kernel)
  have f_37 := hts (.fieldLink RX2 37 "LogSpooler$LogFile" "olderOnes" "I") (by decide +kernel)
  have f_40 := hts (.fieldLink RX2 40 "LogSpooler$LogFile" "rotations" "I") (by decide +kernel)
  have hS : va_S (fun q => B0 ≤ q) s.heap s.heap [] := va_S.rf
  have hl := lv_entry ([.ref (ad (k))]) (n := 2) (Nat.le_of_ble_eq_true rfl)
  rw [lg_entry_eq]
  generalize (lg_sl ([.ref (ad (k))]) ++ List.replicate (2 - (lg_sl ([.ref (ad (k))])).length) Slot.unset).toArray = ls at hl ⊢
  have hl : lv_has ls 2 [(0, .ref (ad (k)))] := hl
  have j_2 : ∀ (n : Nat) (v1 : Int32) (h : xH) (H : Heap) (locs : List Loc) (ls : Array Slot), w_X2_turnOver_2 k K n v1 h → XP ad D T h H → va_S (fun q => B0 ≤ q) s.heap H locs → lv_has ls 2 [(0, .ref (ad (k))), (1, .int (v1))] → W p l e (headSpec wsX2_turnOver ({ frames := 0, cells := 0, slots := 0, locals := 0 } : Room)).room s m ([.ref (ad (k))] : List Value).toArray below meth c H locs 0 0 (MQ below (XQ B0 ad D T xev K) ([.ref (ad (k))] : List Value).toArray s 0 0 (fun q => B0 ≤ q)) (F0 m 2 ls []) := by
    intro n
    induction n with
    | zero => intro v1 h H locs ls hw; exact hw.elim
    | succ n9 ih =>
      intro v1 h H locs ls hw hP hS hl 
      rw [w_X2_turnOver_2_s] at hw
      refine lv_iload_n hx hb dX2_turnOver_2 rfl (lv_at hl 1 rfl) ?_
      refine lv_if_le (tgt := 26) hx hb dX2_turnOver_3 (by decide) (fun c1 => ?_) (fun c1 => ?_)
      · have hw := hw.1 c1
        refine lv_aload_n hx hb dX2_turnOver_26 rfl (lv_at hl 0 rfl) ?_
        refine xg_getr (C := RX2) (TC := TX2) (N := 10) hx hb hts iX2 hown hK hP (xsF hk) rfl 1 (by decide) f_15 (fun _ h9 => h9) rfl dX2_turnOver_27 ?_
        refine lv_iconst (v := 0) hx hb dX2_turnOver_30 (by decide) ?_
        refine lv_aload_n hx hb dX2_turnOver_31 rfl (lv_at hl 0 rfl) ?_
        refine xg_get (C := RX2) (TC := TX2) (N := 10) hx hb hts iX2 hown hK hP (xsF hk) rfl 2 (by decide) f_18 (fun _ h9 => h9) rfl dX2_turnOver_32 ?_
        obtain ⟨hi2, hw⟩ := hw
        refine xg_iast hx hb hK hP hA hS (xsFs hk) hi2 dX2_turnOver_35 (fun H locs h3 eh3 hP hS => ?_)
        have hw := hw h3 eh3
        refine lv_aload_n hx hb dX2_turnOver_36 rfl (lv_at hl 0 rfl) ?_
        refine lv_iconst (v := 0) hx hb dX2_turnOver_37 (by decide) ?_
        refine xg_put (C := RX2) (TC := TX2) (N := 10) hx hb hts iX2 tyX2 tyX2_ok nmX2 hown hK hP hA hS (xsF hk) rfl 7 (by decide) f_34 (fun _ h9 => h9) rfl rfl (ty := .int) (by decide +kernel) rfl rfl dX2_turnOver_38 (fun H locs h4 eh4 hP hS => ?_)
        have hw := hw h4 eh4
        refine lv_aload_n hx hb dX2_turnOver_41 rfl (lv_at hl 0 rfl) ?_
        refine lv_dup hx hb dX2_turnOver_42 rfl ?_
        refine xg_get (C := RX2) (TC := TX2) (N := 10) hx hb hts iX2 hown hK hP (xsF hk) rfl 9 (by decide) f_40 (fun _ h9 => h9) rfl dX2_turnOver_43 ?_
        refine lv_iconst (v := 1) hx hb dX2_turnOver_46 (by decide) ?_
        refine lv_iadd hx hb dX2_turnOver_47 ?_
        refine xg_put (C := RX2) (TC := TX2) (N := 10) hx hb hts iX2 tyX2 tyX2_ok nmX2 hown hK hP hA hS (xsF hk) rfl 9 (by decide) f_40 (fun _ h9 => h9) rfl rfl (ty := .int) (by decide +kernel) rfl rfl dX2_turnOver_48 (fun H locs h5 eh5 hP hS => ?_)
        have hw := hw h5 eh5
        refine lv_aload_n hx hb dX2_turnOver_51 rfl (lv_at hl 0 rfl) ?_
        refine xg_get (C := RX2) (TC := TX2) (N := 10) hx hb hts iX2 hown hK hP (xsF hk) rfl 8 (by decide) f_37 (fun _ h9 => h9) rfl dX2_turnOver_52 ?_
        refine lv_aload_n hx hb dX2_turnOver_55 rfl (lv_at hl 0 rfl) ?_
        refine xg_get (C := RX2) (TC := TX2) (N := 10) hx hb hts iX2 hown hK hP (xsF hk) rfl 5 (by decide) f_28 (fun _ h9 => h9) rfl dX2_turnOver_56 ?_
        refine lv_icmp_ge (tgt := 72) hx hb dX2_turnOver_59 (by decide) (fun c6 => ?_) (fun c6 => ?_)
        · have hw := hw.1 c6
          exact xg_vrets hx hb hr hlocks hB0 hP hK hN hS dX2_turnOver_72 (by decide) (by decide) hw
        · have hw := hw.2 c6
          refine lv_aload_n hx hb dX2_turnOver_62 rfl (lv_at hl 0 rfl) ?_
          refine lv_dup hx hb dX2_turnOver_63 rfl ?_
          refine xg_get (C := RX2) (TC := TX2) (N := 10) hx hb hts iX2 hown hK hP (xsF hk) rfl 8 (by decide) f_37 (fun _ h9 => h9) rfl dX2_turnOver_64 ?_
          refine lv_iconst (v := 1) hx hb dX2_turnOver_67 (by decide) ?_
          refine lv_iadd hx hb dX2_turnOver_68 ?_
          refine xg_put (C := RX2) (TC := TX2) (N := 10) hx hb hts iX2 tyX2 tyX2_ok nmX2 hown hK hP hA hS (xsF hk) rfl 8 (by decide) f_37 (fun _ h9 => h9) rfl rfl (ty := .int) (by decide +kernel) rfl rfl dX2_turnOver_69 (fun H locs h7 eh7 hP hS => ?_)
          have hw := hw h7 eh7
          exact xg_vrets hx hb hr hlocks hB0 hP hK hN hS dX2_turnOver_72 (by decide) (by decide) hw
      · have hw := hw.2 c1
        refine lv_aload_n hx hb dX2_turnOver_6 rfl (lv_at hl 0 rfl) ?_
        refine xg_getr (C := RX2) (TC := TX2) (N := 10) hx hb hts iX2 hown hK hP (xsF hk) rfl 1 (by decide) f_15 (fun _ h9 => h9) rfl dX2_turnOver_7 ?_
        refine lv_iload_n hx hb dX2_turnOver_10 rfl (lv_at hl 1 rfl) ?_
        refine lv_aload_n hx hb dX2_turnOver_11 rfl (lv_at hl 0 rfl) ?_
        refine xg_getr (C := RX2) (TC := TX2) (N := 10) hx hb hts iX2 hown hK hP (xsF hk) rfl 1 (by decide) f_15 (fun _ h9 => h9) rfl dX2_turnOver_12 ?_
        refine lv_iload_n hx hb dX2_turnOver_15 rfl (lv_at hl 1 rfl) ?_
        refine lv_iconst (v := 1) hx hb dX2_turnOver_16 (by decide) ?_
        refine lv_isub hx hb dX2_turnOver_17 ?_
        obtain ⟨hi8, hw⟩ := hw
        refine xg_iald hx hb hK hP (xsFs hk) hi8 dX2_turnOver_18 ?_
        obtain ⟨hi9, hw⟩ := hw
        refine xg_iast hx hb hK hP hA hS (xsFs hk) hi9 dX2_turnOver_19 (fun H locs h10 eh10 hP hS => ?_)
        have hw := hw h10 eh10
        obtain ⟨x11, ex11⟩ : ∃ z : Int32, z = v1 + (-1) := ⟨_, rfl⟩
        have hw := hw x11 ex11
        refine lv_iinc (v := x11) (lv' := [(1, .int (x11)), (0, .ref (ad (k)))]) hx hb dX2_turnOver_20 hl (k := 1) rfl (by rw [ex11]; rfl) (by decide) rfl (fun ls hl => ?_)
        refine lv_goto (tgt := 2) hx hb dX2_turnOver_23 (by decide) ?_
        exact ih (x11) _ _ _ _ hw hP hS (lv_sub hl [1, 0] rfl)
  unfold w_X2_turnOver at hw
  refine lv_iconst (v := 5) hx hb dX2_turnOver_0 (by decide) ?_
  refine lv_istore_n (lv' := [(1, .int (5)), (0, .ref (ad (k)))]) hx hb dX2_turnOver_1 rfl hl (by decide) rfl (fun ls hl => ?_)
  obtain ⟨n9, hw⟩ := hw
  exact j_2  n9 (5) _ _ _ _ hw hP hS (lv_sub hl [1, 0] rfl)
set_option maxHeartbeats 4000000 in
set_option maxRecDepth 100000 in
theorem c_X2_add (l : Launch) (hl9 : l.stackTraces = false) {B0 : Nat} {ad : Nat → Nat} {D : va_G} {T : Nat → ClassId} (hA : XA B0 ad) (k : Nat) (hk : 30 ≤ k ∧ k < 34) (p0 : Int32) (p1 : Int32) (p2 : Int32) {h : xH} {K : Unit → xH → Prop} (hw : w_X2_add k p0 p1 p2 h K) : XM l yX2_add wsX2_add ({ frames := 1, cells := 0, slots := 0, locals := 21 } : Room) B0 ad D T h [.ref (ad (k)), .int (p0), .int (p1), .int (p2)] xev K 0 0 := by
  unfold XM
  refine Met.ofW (cc := cX2_add) (maxL := 4) (ret := none) (by decide) rfl ?_
  intro p e s m args below meth c s₁ B hml hv
  obtain ⟨rfl, hB0, hP, hK, hN⟩ := hv
  have hx := B.exec
  have hb := B.bytes
  have hr := B.returns
  have hts := atoms_spec (ws := wsX2_add) B.pre
  have hown : s.vm.findClass RX2 = some m.cls := findClass_of_methodNamed B.named
  have hlocks := B.notSynchronized
  have iX2 : ∀ w ∈ u_ws RX2 TX2 10, w ∈ wsX2_add := by decide +kernel
  have f_9 := hts (.fieldLink RX2 9 "LogSpooler$LogFile" "row" "[I") (by decide +kernel)
  have f_18 := hts (.fieldLink RX2 18 "LogSpooler$LogFile" "end" "I") (by decide +kernel)
  have f_22 := hts (.fieldLink RX2 22 "LogSpooler$LogFile" "greatestSize" "I") (by decide +kernel)
  have f_31 := hts (.fieldLink RX2 31 "LogSpooler$LogFile" "firstCame" "I") (by decide +kernel)
  have f_34 := hts (.fieldLink RX2 34 "LogSpooler$LogFile" "sumOfLengths" "I") (by decide +kernel)
  have hS : va_S (fun q => B0 ≤ q) s.heap s.heap [] := va_S.rf
  have hl := lv_entry ([.ref (ad (k)), .int (p0), .int (p1), .int (p2)]) (n := 4) (Nat.le_of_ble_eq_true rfl)
  rw [lg_entry_eq]
  generalize (lg_sl ([.ref (ad (k)), .int (p0), .int (p1), .int (p2)]) ++ List.replicate (4 - (lg_sl ([.ref (ad (k)), .int (p0), .int (p1), .int (p2)])).length) Slot.unset).toArray = ls at hl ⊢
  have hl : lv_has ls 4 [(0, .ref (ad (k))), (1, .int (p0)), (2, .int (p1)), (3, .int (p2))] := hl
  have j_36 : ∀ (h : xH) (H : Heap) (locs : List Loc) (ls : Array Slot), w_X2_add_36 k p0 p1 p2 K h → XP ad D T h H → va_S (fun q => B0 ≤ q) s.heap H locs → lv_has ls 4 [(0, .ref (ad (k))), (1, .int (p0)), (2, .int (p1))] → W p l e (headSpec wsX2_add ({ frames := 1, cells := 0, slots := 0, locals := 21 } : Room)).room s m ([.ref (ad (k)), .int (p0), .int (p1), .int (p2)] : List Value).toArray below meth c H locs 0 0 (MQ below (XQ B0 ad D T xev K) ([.ref (ad (k)), .int (p0), .int (p1), .int (p2)] : List Value).toArray s 0 0 (fun q => B0 ≤ q)) (F0 m 36 ls []) := by
    intro h H locs ls hw hP hS hl 
    unfold w_X2_add_36 at hw
    refine lv_aload_n hx hb dX2_add_36 rfl (lv_at hl 0 rfl) ?_
    refine xg_get (C := RX2) (TC := TX2) (N := 10) hx hb hts iX2 hown hK hP (xsF hk) rfl 2 (by decide) f_18 (fun _ h9 => h9) rfl dX2_add_37 ?_
    refine lv_if_lt (tgt := 85) hx hb dX2_add_40 (by decide) (fun c11 => ?_) (fun c11 => ?_)
    · have hw := hw.1 c11
      exact xg_vrets hx hb hr hlocks hB0 hP hK hN hS dX2_add_85 (by decide) (by decide) hw
    · have hw := hw.2 c11
      refine lv_aload_n hx hb dX2_add_43 rfl (lv_at hl 0 rfl) ?_
      refine xg_get (C := RX2) (TC := TX2) (N := 10) hx hb hts iX2 hown hK hP (xsF hk) rfl 2 (by decide) f_18 (fun _ h9 => h9) rfl dX2_add_44 ?_
      refine lv_aload_n hx hb dX2_add_47 rfl (lv_at hl 0 rfl) ?_
      refine xg_getr (C := RX2) (TC := TX2) (N := 10) hx hb hts iX2 hown hK hP (xsF hk) rfl 0 (by decide) f_9 (fun _ h9 => h9) rfl dX2_add_48 ?_
      refine xg_alen (v := 400) hx hb hK hP (xsFr hk) rfl dX2_add_51 ?_
      refine lv_icmp_ge (tgt := 85) hx hb dX2_add_52 (by decide) (fun c12 => ?_) (fun c12 => ?_)
      · have hw := hw.1 c12
        exact xg_vrets hx hb hr hlocks hB0 hP hK hN hS dX2_add_85 (by decide) (by decide) hw
      · have hw := hw.2 c12
        refine lv_aload_n hx hb dX2_add_55 rfl (lv_at hl 0 rfl) ?_
        refine xg_getr (C := RX2) (TC := TX2) (N := 10) hx hb hts iX2 hown hK hP (xsF hk) rfl 0 (by decide) f_9 (fun _ h9 => h9) rfl dX2_add_56 ?_
        refine lv_aload_n hx hb dX2_add_59 rfl (lv_at hl 0 rfl) ?_
        refine xg_get (C := RX2) (TC := TX2) (N := 10) hx hb hts iX2 hown hK hP (xsF hk) rfl 2 (by decide) f_18 (fun _ h9 => h9) rfl dX2_add_60 ?_
        refine lv_iload_n hx hb dX2_add_63 rfl (lv_at hl 1 rfl) ?_
        obtain ⟨hi13, hw⟩ := hw
        refine xg_iast hx hb hK hP hA hS (xsFr hk) hi13 dX2_add_64 (fun H locs h14 eh14 hP hS => ?_)
        have hw := hw h14 eh14
        refine lv_aload_n hx hb dX2_add_65 rfl (lv_at hl 0 rfl) ?_
        refine lv_dup hx hb dX2_add_66 rfl ?_
        refine xg_get (C := RX2) (TC := TX2) (N := 10) hx hb hts iX2 hown hK hP (xsF hk) rfl 2 (by decide) f_18 (fun _ h9 => h9) rfl dX2_add_67 ?_
        refine lv_iconst (v := 1) hx hb dX2_add_70 (by decide) ?_
        refine lv_iadd hx hb dX2_add_71 ?_
        refine xg_put (C := RX2) (TC := TX2) (N := 10) hx hb hts iX2 tyX2 tyX2_ok nmX2 hown hK hP hA hS (xsF hk) rfl 2 (by decide) f_18 (fun _ h9 => h9) rfl rfl (ty := .int) (by decide +kernel) rfl rfl dX2_add_72 (fun H locs h15 eh15 hP hS => ?_)
        have hw := hw h15 eh15
        refine lv_aload_n hx hb dX2_add_75 rfl (lv_at hl 0 rfl) ?_
        refine lv_dup hx hb dX2_add_76 rfl ?_
        refine xg_get (C := RX2) (TC := TX2) (N := 10) hx hb hts iX2 hown hK hP (xsF hk) rfl 7 (by decide) f_34 (fun _ h9 => h9) rfl dX2_add_77 ?_
        refine lv_iload_n hx hb dX2_add_80 rfl (lv_at hl 2 rfl) ?_
        refine lv_iadd hx hb dX2_add_81 ?_
        refine xg_put (C := RX2) (TC := TX2) (N := 10) hx hb hts iX2 tyX2 tyX2_ok nmX2 hown hK hP hA hS (xsF hk) rfl 7 (by decide) f_34 (fun _ h9 => h9) rfl rfl (ty := .int) (by decide +kernel) rfl rfl dX2_add_82 (fun H locs h16 eh16 hP hS => ?_)
        have hw := hw h16 eh16
        exact xg_vrets hx hb hr hlocks hB0 hP hK hN hS dX2_add_85 (by decide) (by decide) hw
  have j_24 : ∀ (h : xH) (H : Heap) (locs : List Loc) (ls : Array Slot), w_X2_add_24 k p0 p1 p2 K h → XP ad D T h H → va_S (fun q => B0 ≤ q) s.heap H locs → lv_has ls 4 [(0, .ref (ad (k))), (1, .int (p0)), (2, .int (p1)), (3, .int (p2))] → W p l e (headSpec wsX2_add ({ frames := 1, cells := 0, slots := 0, locals := 21 } : Room)).room s m ([.ref (ad (k)), .int (p0), .int (p1), .int (p2)] : List Value).toArray below meth c H locs 0 0 (MQ below (XQ B0 ad D T xev K) ([.ref (ad (k)), .int (p0), .int (p1), .int (p2)] : List Value).toArray s 0 0 (fun q => B0 ≤ q)) (F0 m 24 ls []) := by
    intro h H locs ls hw hP hS hl 
    unfold w_X2_add_24 at hw
    refine lv_aload_n hx hb dX2_add_24 rfl (lv_at hl 0 rfl) ?_
    refine xg_calli (va_runV (As := []) (rest := []) ⟨hx, hb, hml, hown, hts⟩ (c_X2_isEmpty l hl9 hA k hk hw) (cwV 0 hts gX2_add_X2_isEmpty rfl rfl rfl (by decide +kernel) ⟨Nat.le_of_ble_eq_true rfl, Nat.le_of_ble_eq_true rfl⟩) (xg_preV hB0 hP hK hN hS (xsF hk) rfl) rfl rfl hl.1 rfl (lv_room (Nat.le_of_ble_eq_true rfl)) dX2_add_25 ⟨Nat.le_of_ble_eq_true rfl, Nat.le_of_ble_eq_true rfl⟩) hS (fun r7 h8 H locs hw hP hS => ?_)
    refine lv_if_eq (tgt := 36) hx hb dX2_add_28 (by decide) (fun c9 => ?_) (fun c9 => ?_)
    · have hw := hw.1 c9
      exact j_36   _ _ _ _ hw hP hS (lv_sub hl [0, 1, 2] rfl)
    · have hw := hw.2 c9
      refine lv_aload_n hx hb dX2_add_31 rfl (lv_at hl 0 rfl) ?_
      refine lv_iload_n hx hb dX2_add_32 rfl (lv_at hl 3 rfl) ?_
      refine xg_put (C := RX2) (TC := TX2) (N := 10) hx hb hts iX2 tyX2 tyX2_ok nmX2 hown hK hP hA hS (xsF hk) rfl 6 (by decide) f_31 (fun _ h9 => h9) rfl rfl (ty := .int) (by decide +kernel) rfl rfl dX2_add_33 (fun H locs h10 eh10 hP hS => ?_)
      have hw := hw h10 eh10
      exact j_36   _ _ _ _ hw hP hS (lv_sub hl [0, 1, 2] rfl)
  unfold w_X2_add at hw
  refine lv_aload_n hx hb dX2_add_0 rfl (lv_at hl 0 rfl) ?_
  refine xg_calli (va_runV (As := []) (rest := []) ⟨hx, hb, hml, hown, hts⟩ (c_X2_isEmpty l hl9 hA k hk hw) (cwV 0 hts gX2_add_X2_isEmpty rfl rfl rfl (by decide +kernel) ⟨Nat.le_of_ble_eq_true rfl, Nat.le_of_ble_eq_true rfl⟩) (xg_preV hB0 hP hK hN hS (xsF hk) rfl) rfl rfl hl.1 rfl (lv_room (Nat.le_of_ble_eq_true rfl)) dX2_add_1 ⟨Nat.le_of_ble_eq_true rfl, Nat.le_of_ble_eq_true rfl⟩) hS (fun r1 h2 H locs hw hP hS => ?_)
  refine lv_if_ne (tgt := 24) hx hb dX2_add_4 (by decide) (fun c3 => ?_) (fun c3 => ?_)
  · have hw := hw.2 c3
    exact j_24   _ _ _ _ hw hP hS (lv_sub hl [0, 1, 2, 3] rfl)
  · have hw := hw.1 c3
    refine lv_aload_n hx hb dX2_add_7 rfl (lv_at hl 0 rfl) ?_
    refine xg_get (C := RX2) (TC := TX2) (N := 10) hx hb hts iX2 hown hK hP (xsF hk) rfl 7 (by decide) f_34 (fun _ h9 => h9) rfl dX2_add_8 ?_
    refine lv_iload_n hx hb dX2_add_11 rfl (lv_at hl 2 rfl) ?_
    refine lv_iadd hx hb dX2_add_12 ?_
    refine lv_aload_n hx hb dX2_add_13 rfl (lv_at hl 0 rfl) ?_
    refine xg_get (C := RX2) (TC := TX2) (N := 10) hx hb hts iX2 hown hK hP (xsF hk) rfl 3 (by decide) f_22 (fun _ h9 => h9) rfl dX2_add_14 ?_
    refine lv_icmp_le (tgt := 24) hx hb dX2_add_17 (by decide) (fun c4 => ?_) (fun c4 => ?_)
    · have hw := hw.1 c4
      exact j_24   _ _ _ _ hw hP hS (lv_sub hl [0, 1, 2, 3] rfl)
    · have hw := hw.2 c4
      refine lv_aload_n hx hb dX2_add_20 rfl (lv_at hl 0 rfl) ?_
      refine xg_callv (va_runV (As := []) (rest := []) ⟨hx, hb, hml, hown, hts⟩ (c_X2_turnOver l hl9 hA k hk hw) (cwV 0 hts gX2_add_X2_turnOver rfl rfl rfl (by decide +kernel) ⟨Nat.le_of_ble_eq_true rfl, Nat.le_of_ble_eq_true rfl⟩) (xg_preV hB0 hP hK hN hS (xsF hk) rfl) rfl rfl hl.1 rfl (lv_room (Nat.le_of_ble_eq_true rfl)) dX2_add_21 ⟨Nat.le_of_ble_eq_true rfl, Nat.le_of_ble_eq_true rfl⟩) hS (fun _ h6 H locs hw hP hS => ?_)
      exact j_24   _ _ _ _ hw hP hS (lv_sub hl [0, 1, 2, 3] rfl)
set_option maxHeartbeats 4000000 in
set_option maxRecDepth 100000 in
theorem c_X2_has (l : Launch) (hl9 : l.stackTraces = false) {B0 : Nat} {ad : Nat → Nat} {D : va_G} {T : Nat → ClassId} (hA : XA B0 ad) (k : Nat) (hk : 30 ≤ k ∧ k < 34) (p0 : Int32) {h : xH} {K : Int32 → xH → Prop} (hw : w_X2_has k p0 h K) : XM l yX2_has wsX2_has ({ frames := 0, cells := 0, slots := 0, locals := 0 } : Room) B0 ad D T h [.ref (ad (k)), .int (p0)] xei K 0 0 := by
  unfold XM
  refine Met.ofW (cc := cX2_has) (maxL := 2) (ret := (some .boolean)) (by decide) rfl ?_
  intro p e s m args below meth c s₁ B hml hv
  obtain ⟨rfl, hB0, hP, hK, hN⟩ := hv
  have hx := B.exec
  have hb := B.bytes
  have hr := B.returns
  have hts := atoms_spec (ws := wsX2_has) B.pre
  have hown : s.vm.findClass RX2 = some m.cls := findClass_of_methodNamed B.named
  have hlocks := B.notSynchronized
  have iX2 : ∀ w ∈ u_ws RX2 TX2 10, w ∈ wsX2_has := by decide +kernel
  have f_37 := hts (.fieldLink RX2 37 "LogSpooler$LogFile" "olderOnes" "I") (by decide +kernel)
  have hS : va_S (fun q => B0 ≤ q) s.heap s.heap [] := va_S.rf
  have hl := lv_entry ([.ref (ad (k)), .int (p0)]) (n := 2) (Nat.le_of_ble_eq_true rfl)
  rw [lg_entry_eq]
  generalize (lg_sl ([.ref (ad (k)), .int (p0)]) ++ List.replicate (2 - (lg_sl ([.ref (ad (k)), .int (p0)])).length) Slot.unset).toArray = ls at hl ⊢
  have hl : lv_has ls 2 [(0, .ref (ad (k))), (1, .int (p0))] := hl
  unfold w_X2_has at hw
  refine lv_iload_n hx hb dX2_has_0 rfl (lv_at hl 1 rfl) ?_
  refine lv_iconst (v := (-1)) hx hb dX2_has_1 (by decide) ?_
  refine lv_icmp_lt (tgt := 17) hx hb dX2_has_2 (by decide) (fun c1 => ?_) (fun c1 => ?_)
  · have hw := hw.1 c1
    refine lv_iconst (v := 0) hx hb dX2_has_17 (by decide) ?_
    exact xg_irets hx hb hr rfl hlocks hB0 hP hK hN hS dX2_has_18 (by decide) (by decide) hw
  · have hw := hw.2 c1
    refine lv_iload_n hx hb dX2_has_5 rfl (lv_at hl 1 rfl) ?_
    refine lv_aload_n hx hb dX2_has_6 rfl (lv_at hl 0 rfl) ?_
    refine xg_get (C := RX2) (TC := TX2) (N := 10) hx hb hts iX2 hown hK hP (xsF hk) rfl 8 (by decide) f_37 (fun _ h9 => h9) rfl dX2_has_7 ?_
    refine lv_icmp_ge (tgt := 17) hx hb dX2_has_10 (by decide) (fun c2 => ?_) (fun c2 => ?_)
    · have hw := hw.1 c2
      refine lv_iconst (v := 0) hx hb dX2_has_17 (by decide) ?_
      exact xg_irets hx hb hr rfl hlocks hB0 hP hK hN hS dX2_has_18 (by decide) (by decide) hw
    · have hw := hw.2 c2
      refine lv_iconst (v := 1) hx hb dX2_has_13 (by decide) ?_
      refine lv_goto (tgt := 18) hx hb dX2_has_14 (by decide) ?_
      exact xg_irets hx hb hr rfl hlocks hB0 hP hK hN hS dX2_has_18 (by decide) (by decide) hw
set_option maxHeartbeats 4000000 in
set_option maxRecDepth 100000 in
theorem c_X2_startOf (l : Launch) (hl9 : l.stackTraces = false) {B0 : Nat} {ad : Nat → Nat} {D : va_G} {T : Nat → ClassId} (hA : XA B0 ad) (k : Nat) (hk : 30 ≤ k ∧ k < 34) (p0 : Int32) {h : xH} {K : Int32 → xH → Prop} (hw : w_X2_startOf k p0 h K) : XM l yX2_startOf wsX2_startOf ({ frames := 0, cells := 0, slots := 0, locals := 0 } : Room) B0 ad D T h [.ref (ad (k)), .int (p0)] xei K 0 0 := by
  unfold XM
  refine Met.ofW (cc := cX2_startOf) (maxL := 3) (ret := (some .int)) (by decide) rfl ?_
  intro p e s m args below meth c s₁ B hml hv
  obtain ⟨rfl, hB0, hP, hK, hN⟩ := hv
  have hx := B.exec
  have hb := B.bytes
  have hr := B.returns
  have hts := atoms_spec (ws := wsX2_startOf) B.pre
  have hown : s.vm.findClass RX2 = some m.cls := findClass_of_methodNamed B.named
  have hlocks := B.notSynchronized
  have iX2 : ∀ w ∈ u_ws RX2 TX2 10, w ∈ wsX2_startOf := by decide +kernel
  have f_15 := hts (.fieldLink RX2 15 "LogSpooler$LogFile" "starts" "[I") (by decide +kernel)
  have f_18 := hts (.fieldLink RX2 18 "LogSpooler$LogFile" "end" "I") (by decide +kernel)
  have hS : va_S (fun q => B0 ≤ q) s.heap s.heap [] := va_S.rf
  have hl := lv_entry ([.ref (ad (k)), .int (p0)]) (n := 3) (Nat.le_of_ble_eq_true rfl)
  rw [lg_entry_eq]
  generalize (lg_sl ([.ref (ad (k)), .int (p0)]) ++ List.replicate (3 - (lg_sl ([.ref (ad (k)), .int (p0)])).length) Slot.unset).toArray = ls at hl ⊢
  have hl : lv_has ls 3 [(0, .ref (ad (k))), (1, .int (p0))] := hl
  unfold w_X2_startOf at hw
  refine lv_iload_n hx hb dX2_startOf_0 rfl (lv_at hl 1 rfl) ?_
  refine lv_iconst (v := 1) hx hb dX2_startOf_1 (by decide) ?_
  refine lv_iadd hx hb dX2_startOf_2 ?_
  refine lv_topi (fun x1 ex1 => ?_)
  have hw := hw x1 ex1
  refine lv_istore_n (lv' := [(2, .int (x1)), (0, .ref (ad (k))), (1, .int (p0))]) hx hb dX2_startOf_3 rfl hl (by decide) rfl (fun ls hl => ?_)
  refine lv_iload_n hx hb dX2_startOf_4 rfl (lv_at hl 0 rfl) ?_
  refine lv_if_lt (tgt := 26) hx hb dX2_startOf_5 (by decide) (fun c2 => ?_) (fun c2 => ?_)
  · have hw := hw.1 c2
    refine lv_aload_n hx hb dX2_startOf_26 rfl (lv_at hl 1 rfl) ?_
    refine xg_get (C := RX2) (TC := TX2) (N := 10) hx hb hts iX2 hown hK hP (xsF hk) rfl 2 (by decide) f_18 (fun _ h9 => h9) rfl dX2_startOf_27 ?_
    exact xg_irets hx hb hr rfl hlocks hB0 hP hK hN hS dX2_startOf_30 (by decide) (by decide) hw
  · have hw := hw.2 c2
    refine lv_iload_n hx hb dX2_startOf_8 rfl (lv_at hl 0 rfl) ?_
    refine lv_aload_n hx hb dX2_startOf_9 rfl (lv_at hl 1 rfl) ?_
    refine xg_getr (C := RX2) (TC := TX2) (N := 10) hx hb hts iX2 hown hK hP (xsF hk) rfl 1 (by decide) f_15 (fun _ h9 => h9) rfl dX2_startOf_10 ?_
    refine xg_alen (v := 6) hx hb hK hP (xsFs hk) rfl dX2_startOf_13 ?_
    refine lv_icmp_ge (tgt := 26) hx hb dX2_startOf_14 (by decide) (fun c3 => ?_) (fun c3 => ?_)
    · have hw := hw.1 c3
      refine lv_aload_n hx hb dX2_startOf_26 rfl (lv_at hl 1 rfl) ?_
      refine xg_get (C := RX2) (TC := TX2) (N := 10) hx hb hts iX2 hown hK hP (xsF hk) rfl 2 (by decide) f_18 (fun _ h9 => h9) rfl dX2_startOf_27 ?_
      exact xg_irets hx hb hr rfl hlocks hB0 hP hK hN hS dX2_startOf_30 (by decide) (by decide) hw
    · have hw := hw.2 c3
      refine lv_aload_n hx hb dX2_startOf_17 rfl (lv_at hl 1 rfl) ?_
      refine xg_getr (C := RX2) (TC := TX2) (N := 10) hx hb hts iX2 hown hK hP (xsF hk) rfl 1 (by decide) f_15 (fun _ h9 => h9) rfl dX2_startOf_18 ?_
      refine lv_iload_n hx hb dX2_startOf_21 rfl (lv_at hl 0 rfl) ?_
      obtain ⟨hi4, hw⟩ := hw
      refine xg_iald hx hb hK hP (xsFs hk) hi4 dX2_startOf_22 ?_
      refine lv_goto (tgt := 30) hx hb dX2_startOf_23 (by decide) ?_
      exact xg_irets hx hb hr rfl hlocks hB0 hP hK hN hS dX2_startOf_30 (by decide) (by decide) hw
set_option maxHeartbeats 4000000 in
set_option maxRecDepth 100000 in
theorem c_X2_linesOf (l : Launch) (hl9 : l.stackTraces = false) {B0 : Nat} {ad : Nat → Nat} {D : va_G} {T : Nat → ClassId} (hA : XA B0 ad) (k : Nat) (hk : 30 ≤ k ∧ k < 34) (p0 : Int32) {h : xH} {K : Int32 → xH → Prop} (hw : w_X2_linesOf k p0 h K) : XM l yX2_linesOf wsX2_linesOf ({ frames := 1, cells := 0, slots := 0, locals := 22 } : Room) B0 ad D T h [.ref (ad (k)), .int (p0)] xei K 0 0 := by
  unfold XM
  refine Met.ofW (cc := cX2_linesOf) (maxL := 3) (ret := (some .int)) (by decide) rfl ?_
  intro p e s m args below meth c s₁ B hml hv
  obtain ⟨rfl, hB0, hP, hK, hN⟩ := hv
  have hx := B.exec
  have hb := B.bytes
  have hr := B.returns
  have hts := atoms_spec (ws := wsX2_linesOf) B.pre
  have hown : s.vm.findClass RX2 = some m.cls := findClass_of_methodNamed B.named
  have hlocks := B.notSynchronized
  have iX2 : ∀ w ∈ u_ws RX2 TX2 10, w ∈ wsX2_linesOf := by decide +kernel
  have f_18 := hts (.fieldLink RX2 18 "LogSpooler$LogFile" "end" "I") (by decide +kernel)
  have hS : va_S (fun q => B0 ≤ q) s.heap s.heap [] := va_S.rf
  have hl := lv_entry ([.ref (ad (k)), .int (p0)]) (n := 3) (Nat.le_of_ble_eq_true rfl)
  rw [lg_entry_eq]
  generalize (lg_sl ([.ref (ad (k)), .int (p0)]) ++ List.replicate (3 - (lg_sl ([.ref (ad (k)), .int (p0)])).length) Slot.unset).toArray = ls at hl ⊢
  have hl : lv_has ls 3 [(0, .ref (ad (k))), (1, .int (p0))] := hl
  have j_19 : ∀ (s0 : Int32) (h : xH) (H : Heap) (locs : List Loc) (ls : Array Slot), w_X2_linesOf_19 k p0 K s0 h → XP ad D T h H → va_S (fun q => B0 ≤ q) s.heap H locs → lv_has ls 3 [(0, .ref (ad (k))), (1, .int (p0))] → W p l e (headSpec wsX2_linesOf ({ frames := 1, cells := 0, slots := 0, locals := 22 } : Room)).room s m ([.ref (ad (k)), .int (p0)] : List Value).toArray below meth c H locs 0 0 (MQ below (XQ B0 ad D T xei K) ([.ref (ad (k)), .int (p0)] : List Value).toArray s 0 0 (fun q => B0 ≤ q)) (F0 m 19 ls [.int (s0)]) := by
    intro s0 h H locs ls hw hP hS hl 
    unfold w_X2_linesOf_19 at hw
    refine lv_istore_n (lv' := [(2, .int (s0)), (0, .ref (ad (k))), (1, .int (p0))]) hx hb dX2_linesOf_19 rfl hl (by decide) rfl (fun ls hl => ?_)
    refine lv_iload_n hx hb dX2_linesOf_20 rfl (lv_at hl 0 rfl) ?_
    refine lv_aload_n hx hb dX2_linesOf_21 rfl (lv_at hl 1 rfl) ?_
    refine lv_iload_n hx hb dX2_linesOf_22 rfl (lv_at hl 2 rfl) ?_
    refine xg_calli (va_runV (As := [.int (p0)]) (rest := [.int (s0)]) ⟨hx, hb, hml, hown, hts⟩ (c_X2_startOf l hl9 hA k hk p0 hw) (cwV 1 hts gX2_linesOf_X2_startOf rfl rfl rfl (by decide +kernel) ⟨Nat.le_of_ble_eq_true rfl, Nat.le_of_ble_eq_true rfl⟩) (xg_preV hB0 hP hK hN hS (xsF hk) rfl) rfl rfl hl.1 rfl (lv_room (Nat.le_of_ble_eq_true rfl)) dX2_linesOf_23 ⟨Nat.le_of_ble_eq_true rfl, Nat.le_of_ble_eq_true rfl⟩) hS (fun r4 h5 H locs hw hP hS => ?_)
    refine lv_isub hx hb dX2_linesOf_26 ?_
    exact xg_irets hx hb hr rfl hlocks hB0 hP hK hN hS dX2_linesOf_27 (by decide) (by decide) hw
  unfold w_X2_linesOf at hw
  refine lv_iload_n hx hb dX2_linesOf_0 rfl (lv_at hl 1 rfl) ?_
  refine lv_iconst (v := (-1)) hx hb dX2_linesOf_1 (by decide) ?_
  refine lv_icmp_ne (tgt := 12) hx hb dX2_linesOf_2 (by decide) (fun c1 => ?_) (fun c1 => ?_)
  · have hw := hw.2 c1
    refine lv_aload_n hx hb dX2_linesOf_12 rfl (lv_at hl 0 rfl) ?_
    refine lv_iload_n hx hb dX2_linesOf_13 rfl (lv_at hl 1 rfl) ?_
    refine lv_iconst (v := 1) hx hb dX2_linesOf_14 (by decide) ?_
    refine lv_isub hx hb dX2_linesOf_15 ?_
    refine xg_calli (va_runV (As := [.int ((p0 - 1))]) (rest := []) ⟨hx, hb, hml, hown, hts⟩ (c_X2_startOf l hl9 hA k hk (p0 - 1) hw) (cwV 1 hts gX2_linesOf_X2_startOf rfl rfl rfl (by decide +kernel) ⟨Nat.le_of_ble_eq_true rfl, Nat.le_of_ble_eq_true rfl⟩) (xg_preV hB0 hP hK hN hS (xsF hk) rfl) rfl rfl hl.1 rfl (lv_room (Nat.le_of_ble_eq_true rfl)) dX2_linesOf_16 ⟨Nat.le_of_ble_eq_true rfl, Nat.le_of_ble_eq_true rfl⟩) hS (fun r2 h3 H locs hw hP hS => ?_)
    exact j_19  (r2) _ _ _ _ hw hP hS (lv_sub hl [0, 1] rfl)
  · have hw := hw.1 c1
    refine lv_aload_n hx hb dX2_linesOf_5 rfl (lv_at hl 0 rfl) ?_
    refine xg_get (C := RX2) (TC := TX2) (N := 10) hx hb hts iX2 hown hK hP (xsF hk) rfl 2 (by decide) f_18 (fun _ h9 => h9) rfl dX2_linesOf_6 ?_
    refine lv_goto (tgt := 19) hx hb dX2_linesOf_9 (by decide) ?_
    exact j_19  ((h k 2)) _ _ _ _ hw hP hS (lv_sub hl [0, 1] rfl)
set_option maxHeartbeats 4000000 in
set_option maxRecDepth 100000 in
theorem c_X2_lineAt (l : Launch) (hl9 : l.stackTraces = false) {B0 : Nat} {ad : Nat → Nat} {D : va_G} {T : Nat → ClassId} (hA : XA B0 ad) (k : Nat) (hk : 30 ≤ k ∧ k < 34) (p0 : Int32) (p1 : Int32) {h : xH} {K : Int32 → xH → Prop} (hw : w_X2_lineAt k p0 p1 h K) : XM l yX2_lineAt wsX2_lineAt ({ frames := 1, cells := 0, slots := 0, locals := 22 } : Room) B0 ad D T h [.ref (ad (k)), .int (p0), .int (p1)] xei K 0 0 := by
  unfold XM
  refine Met.ofW (cc := cX2_lineAt) (maxL := 4) (ret := (some .int)) (by decide) rfl ?_
  intro p e s m args below meth c s₁ B hml hv
  obtain ⟨rfl, hB0, hP, hK, hN⟩ := hv
  have hx := B.exec
  have hb := B.bytes
  have hr := B.returns
  have hts := atoms_spec (ws := wsX2_lineAt) B.pre
  have hown : s.vm.findClass RX2 = some m.cls := findClass_of_methodNamed B.named
  have hlocks := B.notSynchronized
  have iX2 : ∀ w ∈ u_ws RX2 TX2 10, w ∈ wsX2_lineAt := by decide +kernel
  have f_9 := hts (.fieldLink RX2 9 "LogSpooler$LogFile" "row" "[I") (by decide +kernel)
  have hS : va_S (fun q => B0 ≤ q) s.heap s.heap [] := va_S.rf
  have hl := lv_entry ([.ref (ad (k)), .int (p0), .int (p1)]) (n := 4) (Nat.le_of_ble_eq_true rfl)
  rw [lg_entry_eq]
  generalize (lg_sl ([.ref (ad (k)), .int (p0), .int (p1)]) ++ List.replicate (4 - (lg_sl ([.ref (ad (k)), .int (p0), .int (p1)])).length) Slot.unset).toArray = ls at hl ⊢
  have hl : lv_has ls 4 [(0, .ref (ad (k))), (1, .int (p0)), (2, .int (p1))] := hl
  unfold w_X2_lineAt at hw
  refine lv_aload_n hx hb dX2_lineAt_0 rfl (lv_at hl 0 rfl) ?_
  refine lv_iload_n hx hb dX2_lineAt_1 rfl (lv_at hl 1 rfl) ?_
  refine xg_calli (va_runV (As := [.int (p0)]) (rest := []) ⟨hx, hb, hml, hown, hts⟩ (c_X2_startOf l hl9 hA k hk p0 hw) (cwV 1 hts gX2_lineAt_X2_startOf rfl rfl rfl (by decide +kernel) ⟨Nat.le_of_ble_eq_true rfl, Nat.le_of_ble_eq_true rfl⟩) (xg_preV hB0 hP hK hN hS (xsF hk) rfl) rfl rfl hl.1 rfl (lv_room (Nat.le_of_ble_eq_true rfl)) dX2_lineAt_2 ⟨Nat.le_of_ble_eq_true rfl, Nat.le_of_ble_eq_true rfl⟩) hS (fun r1 h2 H locs hw hP hS => ?_)
  refine lv_iload_n hx hb dX2_lineAt_5 rfl (lv_at hl 2 rfl) ?_
  refine lv_iadd hx hb dX2_lineAt_6 ?_
  refine lv_topi (fun x3 ex3 => ?_)
  have hw := hw x3 ex3
  refine lv_istore_n (lv' := [(3, .int (x3)), (0, .ref (ad (k))), (1, .int (p0)), (2, .int (p1))]) hx hb dX2_lineAt_7 rfl hl (by decide) rfl (fun ls hl => ?_)
  refine lv_iload_n hx hb dX2_lineAt_8 rfl (lv_at hl 0 rfl) ?_
  refine lv_if_lt (tgt := 30) hx hb dX2_lineAt_9 (by decide) (fun c4 => ?_) (fun c4 => ?_)
  · have hw := hw.1 c4
    refine lv_iconst (v := (-1)) hx hb dX2_lineAt_30 (by decide) ?_
    exact xg_irets hx hb hr rfl hlocks hB0 hP hK hN hS dX2_lineAt_31 (by decide) (by decide) hw
  · have hw := hw.2 c4
    refine lv_iload_n hx hb dX2_lineAt_12 rfl (lv_at hl 0 rfl) ?_
    refine lv_aload_n hx hb dX2_lineAt_13 rfl (lv_at hl 1 rfl) ?_
    refine xg_getr (C := RX2) (TC := TX2) (N := 10) hx hb hts iX2 hown hK hP (xsF hk) rfl 0 (by decide) f_9 (fun _ h9 => h9) rfl dX2_lineAt_14 ?_
    refine xg_alen (v := 400) hx hb hK hP (xsFr hk) rfl dX2_lineAt_17 ?_
    refine lv_icmp_ge (tgt := 30) hx hb dX2_lineAt_18 (by decide) (fun c5 => ?_) (fun c5 => ?_)
    · have hw := hw.1 c5
      refine lv_iconst (v := (-1)) hx hb dX2_lineAt_30 (by decide) ?_
      exact xg_irets hx hb hr rfl hlocks hB0 hP hK hN hS dX2_lineAt_31 (by decide) (by decide) hw
    · have hw := hw.2 c5
      refine lv_aload_n hx hb dX2_lineAt_21 rfl (lv_at hl 1 rfl) ?_
      refine xg_getr (C := RX2) (TC := TX2) (N := 10) hx hb hts iX2 hown hK hP (xsF hk) rfl 0 (by decide) f_9 (fun _ h9 => h9) rfl dX2_lineAt_22 ?_
      refine lv_iload_n hx hb dX2_lineAt_25 rfl (lv_at hl 0 rfl) ?_
      obtain ⟨hi6, hw⟩ := hw
      refine xg_iald hx hb hK hP (xsFr hk) hi6 dX2_lineAt_26 ?_
      refine lv_goto (tgt := 31) hx hb dX2_lineAt_27 (by decide) ?_
      exact xg_irets hx hb hr rfl hlocks hB0 hP hK hN hS dX2_lineAt_31 (by decide) (by decide) hw
set_option maxHeartbeats 4000000 in
set_option maxRecDepth 100000 in
theorem c_X3_put (l : Launch) (hl9 : l.stackTraces = false) {B0 : Nat} {ad : Nat → Nat} {D : va_G} {T : Nat → ClassId} (hA : XA B0 ad) (k : Nat) (hk : 20 ≤ k ∧ k < 26) (p0 : Int32) (p1 : Int32) (p2 : Int32) (p3 : Int32) {h : xH} {K : Unit → xH → Prop} (hw : w_X3_put k p0 p1 p2 p3 h K) : XM l yX3_put wsX3_put ({ frames := 0, cells := 0, slots := 0, locals := 0 } : Room) B0 ad D T h [.ref (ad (k)), .int (p0), .int (p1), .int (p2), .int (p3)] xev K 0 0 := by
  unfold XM
  refine Met.ofW (cc := cX3_put) (maxL := 5) (ret := none) (by decide) rfl ?_
  intro p e s m args below meth c s₁ B hml hv
  obtain ⟨rfl, hB0, hP, hK, hN⟩ := hv
  have hx := B.exec
  have hb := B.bytes
  have hr := B.returns
  have hts := atoms_spec (ws := wsX3_put) B.pre
  have hown : s.vm.findClass RX3 = some m.cls := findClass_of_methodNamed B.named
  have hlocks := B.notSynchronized
  have iX3 : ∀ w ∈ u_ws RX3 TX3 5, w ∈ wsX3_put := by decide +kernel
  have f_9 := hts (.fieldLink RX3 9 "LogSpooler$Rule" "isSet" "Z") (by decide +kernel)
  have f_15 := hts (.fieldLink RX3 15 "LogSpooler$Rule" "facilities" "I") (by decide +kernel)
  have f_19 := hts (.fieldLink RX3 19 "LogSpooler$Rule" "severity" "I") (by decide +kernel)
  have f_22 := hts (.fieldLink RX3 22 "LogSpooler$Rule" "sender" "I") (by decide +kernel)
  have f_25 := hts (.fieldLink RX3 25 "LogSpooler$Rule" "target" "I") (by decide +kernel)
  have hS : va_S (fun q => B0 ≤ q) s.heap s.heap [] := va_S.rf
  have hl := lv_entry ([.ref (ad (k)), .int (p0), .int (p1), .int (p2), .int (p3)]) (n := 5) (Nat.le_of_ble_eq_true rfl)
  rw [lg_entry_eq]
  generalize (lg_sl ([.ref (ad (k)), .int (p0), .int (p1), .int (p2), .int (p3)]) ++ List.replicate (5 - (lg_sl ([.ref (ad (k)), .int (p0), .int (p1), .int (p2), .int (p3)])).length) Slot.unset).toArray = ls at hl ⊢
  have hl : lv_has ls 5 [(0, .ref (ad (k))), (1, .int (p0)), (2, .int (p1)), (3, .int (p2)), (4, .int (p3))] := hl
  unfold w_X3_put at hw
  refine lv_aload_n hx hb dX3_put_0 rfl (lv_at hl 0 rfl) ?_
  refine lv_iconst (v := 1) hx hb dX3_put_1 (by decide) ?_
  refine xg_put (C := RX3) (TC := TX3) (N := 5) hx hb hts iX3 tyX3 tyX3_ok nmX3 hown hK hP hA hS (xsR hk) rfl 0 (by decide) f_9 (fun _ h9 => h9) rfl rfl (ty := .boolean) (by decide +kernel) rfl rfl dX3_put_2 (fun H locs h1 eh1 hP hS => ?_)
  have hw := hw h1 eh1
  refine lv_aload_n hx hb dX3_put_5 rfl (lv_at hl 0 rfl) ?_
  refine lv_iload_n hx hb dX3_put_6 rfl (lv_at hl 1 rfl) ?_
  refine xg_put (C := RX3) (TC := TX3) (N := 5) hx hb hts iX3 tyX3 tyX3_ok nmX3 hown hK hP hA hS (xsR hk) rfl 1 (by decide) f_15 (fun _ h9 => h9) rfl rfl (ty := .int) (by decide +kernel) rfl rfl dX3_put_7 (fun H locs h2 eh2 hP hS => ?_)
  have hw := hw h2 eh2
  refine lv_aload_n hx hb dX3_put_10 rfl (lv_at hl 0 rfl) ?_
  refine lv_iload_n hx hb dX3_put_11 rfl (lv_at hl 2 rfl) ?_
  refine xg_put (C := RX3) (TC := TX3) (N := 5) hx hb hts iX3 tyX3 tyX3_ok nmX3 hown hK hP hA hS (xsR hk) rfl 2 (by decide) f_19 (fun _ h9 => h9) rfl rfl (ty := .int) (by decide +kernel) rfl rfl dX3_put_12 (fun H locs h3 eh3 hP hS => ?_)
  have hw := hw h3 eh3
  refine lv_aload_n hx hb dX3_put_15 rfl (lv_at hl 0 rfl) ?_
  refine lv_iload_n hx hb dX3_put_16 rfl (lv_at hl 3 rfl) ?_
  refine xg_put (C := RX3) (TC := TX3) (N := 5) hx hb hts iX3 tyX3 tyX3_ok nmX3 hown hK hP hA hS (xsR hk) rfl 3 (by decide) f_22 (fun _ h9 => h9) rfl rfl (ty := .int) (by decide +kernel) rfl rfl dX3_put_17 (fun H locs h4 eh4 hP hS => ?_)
  have hw := hw h4 eh4
  refine lv_aload_n hx hb dX3_put_20 rfl (lv_at hl 0 rfl) ?_
  refine lv_iload hx hb dX3_put_21 (lv_at hl 4 rfl) ?_
  refine xg_put (C := RX3) (TC := TX3) (N := 5) hx hb hts iX3 tyX3 tyX3_ok nmX3 hown hK hP hA hS (xsR hk) rfl 4 (by decide) f_25 (fun _ h9 => h9) rfl rfl (ty := .int) (by decide +kernel) rfl rfl dX3_put_23 (fun H locs h5 eh5 hP hS => ?_)
  have hw := hw h5 eh5
  exact xg_vrets hx hb hr hlocks hB0 hP hK hN hS dX3_put_26 (by decide) (by decide) hw
set_option maxHeartbeats 4000000 in
set_option maxRecDepth 100000 in
theorem c_X3_fits (l : Launch) (hl9 : l.stackTraces = false) {B0 : Nat} {ad : Nat → Nat} {D : va_G} {T : Nat → ClassId} (hA : XA B0 ad) (k : Nat) (hk : 20 ≤ k ∧ k < 26) (p0 : Int32) (p1 : Int32) (p2 : Int32) {h : xH} {K : Int32 → xH → Prop} (hw : w_X3_fits k p0 p1 p2 h K) : XM l yX3_fits wsX3_fits ({ frames := 0, cells := 0, slots := 0, locals := 0 } : Room) B0 ad D T h [.ref (ad (k)), .int (p0), .int (p1), .int (p2)] xei K 0 0 := by
  unfold XM
  refine Met.ofW (cc := cX3_fits) (maxL := 4) (ret := (some .boolean)) (by decide) rfl ?_
  intro p e s m args below meth c s₁ B hml hv
  obtain ⟨rfl, hB0, hP, hK, hN⟩ := hv
  have hx := B.exec
  have hb := B.bytes
  have hr := B.returns
  have hts := atoms_spec (ws := wsX3_fits) B.pre
  have hown : s.vm.findClass RX3 = some m.cls := findClass_of_methodNamed B.named
  have hlocks := B.notSynchronized
  have iX3 : ∀ w ∈ u_ws RX3 TX3 5, w ∈ wsX3_fits := by decide +kernel
  have f_9 := hts (.fieldLink RX3 9 "LogSpooler$Rule" "isSet" "Z") (by decide +kernel)
  have f_15 := hts (.fieldLink RX3 15 "LogSpooler$Rule" "facilities" "I") (by decide +kernel)
  have f_19 := hts (.fieldLink RX3 19 "LogSpooler$Rule" "severity" "I") (by decide +kernel)
  have f_22 := hts (.fieldLink RX3 22 "LogSpooler$Rule" "sender" "I") (by decide +kernel)
  have hS : va_S (fun q => B0 ≤ q) s.heap s.heap [] := va_S.rf
  have hl := lv_entry ([.ref (ad (k)), .int (p0), .int (p1), .int (p2)]) (n := 4) (Nat.le_of_ble_eq_true rfl)
  rw [lg_entry_eq]
  generalize (lg_sl ([.ref (ad (k)), .int (p0), .int (p1), .int (p2)]) ++ List.replicate (4 - (lg_sl ([.ref (ad (k)), .int (p0), .int (p1), .int (p2)])).length) Slot.unset).toArray = ls at hl ⊢
  have hl : lv_has ls 4 [(0, .ref (ad (k))), (1, .int (p0)), (2, .int (p1)), (3, .int (p2))] := hl
  have j_43 : ∀ (h : xH) (H : Heap) (locs : List Loc) (ls : Array Slot), w_X3_fits_43 k p0 p1 p2 K h → XP ad D T h H → va_S (fun q => B0 ≤ q) s.heap H locs → lv_has ls 4 [] → W p l e (headSpec wsX3_fits ({ frames := 0, cells := 0, slots := 0, locals := 0 } : Room)).room s m ([.ref (ad (k)), .int (p0), .int (p1), .int (p2)] : List Value).toArray below meth c H locs 0 0 (MQ below (XQ B0 ad D T xei K) ([.ref (ad (k)), .int (p0), .int (p1), .int (p2)] : List Value).toArray s 0 0 (fun q => B0 ≤ q)) (F0 m 43 ls []) := by
    intro h H locs ls hw hP hS hl 
    unfold w_X3_fits_43 at hw
    refine lv_iconst (v := 1) hx hb dX3_fits_43 (by decide) ?_
    refine lv_goto (tgt := 48) hx hb dX3_fits_44 (by decide) ?_
    exact xg_irets hx hb hr rfl hlocks hB0 hP hK hN hS dX3_fits_48 (by decide) (by decide) hw
  unfold w_X3_fits at hw
  refine lv_aload_n hx hb dX3_fits_0 rfl (lv_at hl 0 rfl) ?_
  refine xg_get (C := RX3) (TC := TX3) (N := 5) hx hb hts iX3 hown hK hP (xsR hk) rfl 0 (by decide) f_9 (fun _ h9 => h9) rfl dX3_fits_1 ?_
  refine lv_if_eq (tgt := 47) hx hb dX3_fits_4 (by decide) (fun c1 => ?_) (fun c1 => ?_)
  · have hw := hw.1 c1
    refine lv_iconst (v := 0) hx hb dX3_fits_47 (by decide) ?_
    exact xg_irets hx hb hr rfl hlocks hB0 hP hK hN hS dX3_fits_48 (by decide) (by decide) hw
  · have hw := hw.2 c1
    refine lv_aload_n hx hb dX3_fits_7 rfl (lv_at hl 0 rfl) ?_
    refine xg_get (C := RX3) (TC := TX3) (N := 5) hx hb hts iX3 hown hK hP (xsR hk) rfl 1 (by decide) f_15 (fun _ h9 => h9) rfl dX3_fits_8 ?_
    refine lv_iload_n hx hb dX3_fits_11 rfl (lv_at hl 2 rfl) ?_
    refine lv_ishr hx hb dX3_fits_12 ?_
    refine lv_iconst (v := 1) hx hb dX3_fits_13 (by decide) ?_
    refine lv_iand hx hb dX3_fits_14 ?_
    refine lv_iconst (v := 1) hx hb dX3_fits_15 (by decide) ?_
    refine lv_icmp_ne (tgt := 47) hx hb dX3_fits_16 (by decide) (fun c2 => ?_) (fun c2 => ?_)
    · have hw := hw.2 c2
      refine lv_iconst (v := 0) hx hb dX3_fits_47 (by decide) ?_
      exact xg_irets hx hb hr rfl hlocks hB0 hP hK hN hS dX3_fits_48 (by decide) (by decide) hw
    · have hw := hw.1 c2
      refine lv_iload_n hx hb dX3_fits_19 rfl (lv_at hl 3 rfl) ?_
      refine lv_aload_n hx hb dX3_fits_20 rfl (lv_at hl 0 rfl) ?_
      refine xg_get (C := RX3) (TC := TX3) (N := 5) hx hb hts iX3 hown hK hP (xsR hk) rfl 2 (by decide) f_19 (fun _ h9 => h9) rfl dX3_fits_21 ?_
      refine lv_icmp_gt (tgt := 47) hx hb dX3_fits_24 (by decide) (fun c3 => ?_) (fun c3 => ?_)
      · have hw := hw.1 c3
        refine lv_iconst (v := 0) hx hb dX3_fits_47 (by decide) ?_
        exact xg_irets hx hb hr rfl hlocks hB0 hP hK hN hS dX3_fits_48 (by decide) (by decide) hw
      · have hw := hw.2 c3
        refine lv_aload_n hx hb dX3_fits_27 rfl (lv_at hl 0 rfl) ?_
        refine xg_get (C := RX3) (TC := TX3) (N := 5) hx hb hts iX3 hown hK hP (xsR hk) rfl 3 (by decide) f_22 (fun _ h9 => h9) rfl dX3_fits_28 ?_
        refine lv_iconst (v := (-1)) hx hb dX3_fits_31 (by decide) ?_
        refine lv_icmp_eq (tgt := 43) hx hb dX3_fits_32 (by decide) (fun c4 => ?_) (fun c4 => ?_)
        · have hw := hw.1 c4
          exact j_43   _ _ _ _ hw hP hS (lv_sub hl [] rfl)
        · have hw := hw.2 c4
          refine lv_aload_n hx hb dX3_fits_35 rfl (lv_at hl 0 rfl) ?_
          refine xg_get (C := RX3) (TC := TX3) (N := 5) hx hb hts iX3 hown hK hP (xsR hk) rfl 3 (by decide) f_22 (fun _ h9 => h9) rfl dX3_fits_36 ?_
          refine lv_iload_n hx hb dX3_fits_39 rfl (lv_at hl 1 rfl) ?_
          refine lv_icmp_ne (tgt := 47) hx hb dX3_fits_40 (by decide) (fun c5 => ?_) (fun c5 => ?_)
          · have hw := hw.2 c5
            refine lv_iconst (v := 0) hx hb dX3_fits_47 (by decide) ?_
            exact xg_irets hx hb hr rfl hlocks hB0 hP hK hN hS dX3_fits_48 (by decide) (by decide) hw
          · have hw := hw.1 c5
            exact j_43   _ _ _ _ hw hP hS (lv_sub hl [] rfl)
set_option maxHeartbeats 4000000 in
set_option maxRecDepth 100000 in
theorem c_X4_capTokens (l : Launch) (hl9 : l.stackTraces = false) {B0 : Nat} {ad : Nat → Nat} {D : va_G} {T : Nat → ClassId} (hA : XA B0 ad) (k : Nat) (hk : 10 ≤ k ∧ k < 16) (p0 : Int32) {h : xH} {K : Unit → xH → Prop} (hw : w_X4_capTokens k p0 h K) : XM l yX4_capTokens wsX4_capTokens ({ frames := 0, cells := 0, slots := 0, locals := 0 } : Room) B0 ad D T h [.ref (ad (k)), .int (p0)] xev K 0 0 := by
  unfold XM
  refine Met.ofW (cc := cX4_capTokens) (maxL := 2) (ret := none) (by decide) rfl ?_
  intro p e s m args below meth c s₁ B hml hv
  obtain ⟨rfl, hB0, hP, hK, hN⟩ := hv
  have hx := B.exec
  have hb := B.bytes
  have hr := B.returns
  have hts := atoms_spec (ws := wsX4_capTokens) B.pre
  have hown : s.vm.findClass RX4 = some m.cls := findClass_of_methodNamed B.named
  have hlocks := B.notSynchronized
  have iX4 : ∀ w ∈ u_ws RX4 TX4 9, w ∈ wsX4_capTokens := by decide +kernel
  have f_36 := hts (.fieldLink RX4 36 "LogSpooler$Sender" "tokensLeft" "I") (by decide +kernel)
  have hS : va_S (fun q => B0 ≤ q) s.heap s.heap [] := va_S.rf
  have hl := lv_entry ([.ref (ad (k)), .int (p0)]) (n := 2) (Nat.le_of_ble_eq_true rfl)
  rw [lg_entry_eq]
  generalize (lg_sl ([.ref (ad (k)), .int (p0)]) ++ List.replicate (2 - (lg_sl ([.ref (ad (k)), .int (p0)])).length) Slot.unset).toArray = ls at hl ⊢
  have hl : lv_has ls 2 [(0, .ref (ad (k))), (1, .int (p0))] := hl
  unfold w_X4_capTokens at hw
  refine lv_aload_n hx hb dX4_capTokens_0 rfl (lv_at hl 0 rfl) ?_
  refine xg_get (C := RX4) (TC := TX4) (N := 9) hx hb hts iX4 hown hK hP (xsS hk) rfl 1 (by decide) f_36 (fun _ h9 => h9) rfl dX4_capTokens_1 ?_
  refine lv_iload_n hx hb dX4_capTokens_4 rfl (lv_at hl 1 rfl) ?_
  refine lv_icmp_le (tgt := 13) hx hb dX4_capTokens_5 (by decide) (fun c1 => ?_) (fun c1 => ?_)
  · have hw := hw.1 c1
    exact xg_vrets hx hb hr hlocks hB0 hP hK hN hS dX4_capTokens_13 (by decide) (by decide) hw
  · have hw := hw.2 c1
    refine lv_aload_n hx hb dX4_capTokens_8 rfl (lv_at hl 0 rfl) ?_
    refine lv_iload_n hx hb dX4_capTokens_9 rfl (lv_at hl 1 rfl) ?_
    refine xg_put (C := RX4) (TC := TX4) (N := 9) hx hb hts iX4 tyX4 tyX4_ok nmX4 hown hK hP hA hS (xsS hk) rfl 1 (by decide) f_36 (fun _ h9 => h9) rfl rfl (ty := .int) (by decide +kernel) rfl rfl dX4_capTokens_10 (fun H locs h2 eh2 hP hS => ?_)
    have hw := hw h2 eh2
    exact xg_vrets hx hb hr hlocks hB0 hP hK hN hS dX4_capTokens_13 (by decide) (by decide) hw
set_option maxHeartbeats 4000000 in
set_option maxRecDepth 100000 in
theorem c_X4_gainToken (l : Launch) (hl9 : l.stackTraces = false) {B0 : Nat} {ad : Nat → Nat} {D : va_G} {T : Nat → ClassId} (hA : XA B0 ad) (k : Nat) (hk : 10 ≤ k ∧ k < 16) (p0 : Int32) {h : xH} {K : Unit → xH → Prop} (hw : w_X4_gainToken k p0 h K) : XM l yX4_gainToken wsX4_gainToken ({ frames := 0, cells := 0, slots := 0, locals := 0 } : Room) B0 ad D T h [.ref (ad (k)), .int (p0)] xev K 0 0 := by
  unfold XM
  refine Met.ofW (cc := cX4_gainToken) (maxL := 2) (ret := none) (by decide) rfl ?_
  intro p e s m args below meth c s₁ B hml hv
  obtain ⟨rfl, hB0, hP, hK, hN⟩ := hv
  have hx := B.exec
  have hb := B.bytes
  have hr := B.returns
  have hts := atoms_spec (ws := wsX4_gainToken) B.pre
  have hown : s.vm.findClass RX4 = some m.cls := findClass_of_methodNamed B.named
  have hlocks := B.notSynchronized
  have iX4 : ∀ w ∈ u_ws RX4 TX4 9, w ∈ wsX4_gainToken := by decide +kernel
  have f_36 := hts (.fieldLink RX4 36 "LogSpooler$Sender" "tokensLeft" "I") (by decide +kernel)
  have hS : va_S (fun q => B0 ≤ q) s.heap s.heap [] := va_S.rf
  have hl := lv_entry ([.ref (ad (k)), .int (p0)]) (n := 2) (Nat.le_of_ble_eq_true rfl)
  rw [lg_entry_eq]
  generalize (lg_sl ([.ref (ad (k)), .int (p0)]) ++ List.replicate (2 - (lg_sl ([.ref (ad (k)), .int (p0)])).length) Slot.unset).toArray = ls at hl ⊢
  have hl : lv_has ls 2 [(0, .ref (ad (k))), (1, .int (p0))] := hl
  unfold w_X4_gainToken at hw
  refine lv_aload_n hx hb dX4_gainToken_0 rfl (lv_at hl 0 rfl) ?_
  refine xg_get (C := RX4) (TC := TX4) (N := 9) hx hb hts iX4 hown hK hP (xsS hk) rfl 1 (by decide) f_36 (fun _ h9 => h9) rfl dX4_gainToken_1 ?_
  refine lv_iload_n hx hb dX4_gainToken_4 rfl (lv_at hl 1 rfl) ?_
  refine lv_icmp_ge (tgt := 18) hx hb dX4_gainToken_5 (by decide) (fun c1 => ?_) (fun c1 => ?_)
  · have hw := hw.1 c1
    exact xg_vrets hx hb hr hlocks hB0 hP hK hN hS dX4_gainToken_18 (by decide) (by decide) hw
  · have hw := hw.2 c1
    refine lv_aload_n hx hb dX4_gainToken_8 rfl (lv_at hl 0 rfl) ?_
    refine lv_dup hx hb dX4_gainToken_9 rfl ?_
    refine xg_get (C := RX4) (TC := TX4) (N := 9) hx hb hts iX4 hown hK hP (xsS hk) rfl 1 (by decide) f_36 (fun _ h9 => h9) rfl dX4_gainToken_10 ?_
    refine lv_iconst (v := 1) hx hb dX4_gainToken_13 (by decide) ?_
    refine lv_iadd hx hb dX4_gainToken_14 ?_
    refine xg_put (C := RX4) (TC := TX4) (N := 9) hx hb hts iX4 tyX4 tyX4_ok nmX4 hown hK hP hA hS (xsS hk) rfl 1 (by decide) f_36 (fun _ h9 => h9) rfl rfl (ty := .int) (by decide +kernel) rfl rfl dX4_gainToken_15 (fun H locs h2 eh2 hP hS => ?_)
    have hw := hw h2 eh2
    exact xg_vrets hx hb hr hlocks hB0 hP hK hN hS dX4_gainToken_18 (by decide) (by decide) hw
set_option maxHeartbeats 4000000 in
set_option maxRecDepth 100000 in
theorem c_X4_lastIs (l : Launch) (hl9 : l.stackTraces = false) {B0 : Nat} {ad : Nat → Nat} {D : va_G} {T : Nat → ClassId} (hA : XA B0 ad) (k : Nat) (hk : 10 ≤ k ∧ k < 16) (p0 : Int32) (p1 : Int32) (p2 : Int32) (p3 : Int32) {h : xH} {K : Int32 → xH → Prop} (hw : w_X4_lastIs k p0 p1 p2 p3 h K) : XM l yX4_lastIs wsX4_lastIs ({ frames := 0, cells := 0, slots := 0, locals := 0 } : Room) B0 ad D T h [.ref (ad (k)), .int (p0), .int (p1), .int (p2), .int (p3)] xei K 0 0 := by
  unfold XM
  refine Met.ofW (cc := cX4_lastIs) (maxL := 5) (ret := (some .boolean)) (by decide) rfl ?_
  intro p e s m args below meth c s₁ B hml hv
  obtain ⟨rfl, hB0, hP, hK, hN⟩ := hv
  have hx := B.exec
  have hb := B.bytes
  have hr := B.returns
  have hts := atoms_spec (ws := wsX4_lastIs) B.pre
  have hown : s.vm.findClass RX4 = some m.cls := findClass_of_methodNamed B.named
  have hlocks := B.notSynchronized
  have iX4 : ∀ w ∈ u_ws RX4 TX4 9, w ∈ wsX4_lastIs := by decide +kernel
  have f_21 := hts (.fieldLink RX4 21 "LogSpooler$Sender" "lastFacility" "I") (by decide +kernel)
  have f_24 := hts (.fieldLink RX4 24 "LogSpooler$Sender" "lastSeverity" "I") (by decide +kernel)
  have f_27 := hts (.fieldLink RX4 27 "LogSpooler$Sender" "lastText" "I") (by decide +kernel)
  have f_30 := hts (.fieldLink RX4 30 "LogSpooler$Sender" "lastLength" "I") (by decide +kernel)
  have hS : va_S (fun q => B0 ≤ q) s.heap s.heap [] := va_S.rf
  have hl := lv_entry ([.ref (ad (k)), .int (p0), .int (p1), .int (p2), .int (p3)]) (n := 5) (Nat.le_of_ble_eq_true rfl)
  rw [lg_entry_eq]
  generalize (lg_sl ([.ref (ad (k)), .int (p0), .int (p1), .int (p2), .int (p3)]) ++ List.replicate (5 - (lg_sl ([.ref (ad (k)), .int (p0), .int (p1), .int (p2), .int (p3)])).length) Slot.unset).toArray = ls at hl ⊢
  have hl : lv_has ls 5 [(0, .ref (ad (k))), (1, .int (p0)), (2, .int (p1)), (3, .int (p2)), (4, .int (p3))] := hl
  unfold w_X4_lastIs at hw
  refine lv_aload_n hx hb dX4_lastIs_0 rfl (lv_at hl 0 rfl) ?_
  refine xg_get (C := RX4) (TC := TX4) (N := 9) hx hb hts iX4 hown hK hP (xsS hk) rfl 5 (by decide) f_21 (fun _ h9 => h9) rfl dX4_lastIs_1 ?_
  refine lv_iload_n hx hb dX4_lastIs_4 rfl (lv_at hl 1 rfl) ?_
  refine lv_icmp_ne (tgt := 37) hx hb dX4_lastIs_5 (by decide) (fun c1 => ?_) (fun c1 => ?_)
  · have hw := hw.2 c1
    refine lv_iconst (v := 0) hx hb dX4_lastIs_37 (by decide) ?_
    exact xg_irets hx hb hr rfl hlocks hB0 hP hK hN hS dX4_lastIs_38 (by decide) (by decide) hw
  · have hw := hw.1 c1
    refine lv_aload_n hx hb dX4_lastIs_8 rfl (lv_at hl 0 rfl) ?_
    refine xg_get (C := RX4) (TC := TX4) (N := 9) hx hb hts iX4 hown hK hP (xsS hk) rfl 6 (by decide) f_24 (fun _ h9 => h9) rfl dX4_lastIs_9 ?_
    refine lv_iload_n hx hb dX4_lastIs_12 rfl (lv_at hl 2 rfl) ?_
    refine lv_icmp_ne (tgt := 37) hx hb dX4_lastIs_13 (by decide) (fun c2 => ?_) (fun c2 => ?_)
    · have hw := hw.2 c2
      refine lv_iconst (v := 0) hx hb dX4_lastIs_37 (by decide) ?_
      exact xg_irets hx hb hr rfl hlocks hB0 hP hK hN hS dX4_lastIs_38 (by decide) (by decide) hw
    · have hw := hw.1 c2
      refine lv_aload_n hx hb dX4_lastIs_16 rfl (lv_at hl 0 rfl) ?_
      refine xg_get (C := RX4) (TC := TX4) (N := 9) hx hb hts iX4 hown hK hP (xsS hk) rfl 7 (by decide) f_27 (fun _ h9 => h9) rfl dX4_lastIs_17 ?_
      refine lv_iload_n hx hb dX4_lastIs_20 rfl (lv_at hl 3 rfl) ?_
      refine lv_icmp_ne (tgt := 37) hx hb dX4_lastIs_21 (by decide) (fun c3 => ?_) (fun c3 => ?_)
      · have hw := hw.2 c3
        refine lv_iconst (v := 0) hx hb dX4_lastIs_37 (by decide) ?_
        exact xg_irets hx hb hr rfl hlocks hB0 hP hK hN hS dX4_lastIs_38 (by decide) (by decide) hw
      · have hw := hw.1 c3
        refine lv_aload_n hx hb dX4_lastIs_24 rfl (lv_at hl 0 rfl) ?_
        refine xg_get (C := RX4) (TC := TX4) (N := 9) hx hb hts iX4 hown hK hP (xsS hk) rfl 8 (by decide) f_30 (fun _ h9 => h9) rfl dX4_lastIs_25 ?_
        refine lv_iload hx hb dX4_lastIs_28 (lv_at hl 4 rfl) ?_
        refine lv_icmp_ne (tgt := 37) hx hb dX4_lastIs_30 (by decide) (fun c4 => ?_) (fun c4 => ?_)
        · have hw := hw.2 c4
          refine lv_iconst (v := 0) hx hb dX4_lastIs_37 (by decide) ?_
          exact xg_irets hx hb hr rfl hlocks hB0 hP hK hN hS dX4_lastIs_38 (by decide) (by decide) hw
        · have hw := hw.1 c4
          refine lv_iconst (v := 1) hx hb dX4_lastIs_33 (by decide) ?_
          refine lv_goto (tgt := 38) hx hb dX4_lastIs_34 (by decide) ?_
          exact xg_irets hx hb hr rfl hlocks hB0 hP hK hN hS dX4_lastIs_38 (by decide) (by decide) hw
set_option maxHeartbeats 4000000 in
set_option maxRecDepth 100000 in
theorem c_X4_setLast (l : Launch) (hl9 : l.stackTraces = false) {B0 : Nat} {ad : Nat → Nat} {D : va_G} {T : Nat → ClassId} (hA : XA B0 ad) (k : Nat) (hk : 10 ≤ k ∧ k < 16) (p0 : Int32) (p1 : Int32) (p2 : Int32) (p3 : Int32) {h : xH} {K : Unit → xH → Prop} (hw : w_X4_setLast k p0 p1 p2 p3 h K) : XM l yX4_setLast wsX4_setLast ({ frames := 0, cells := 0, slots := 0, locals := 0 } : Room) B0 ad D T h [.ref (ad (k)), .int (p0), .int (p1), .int (p2), .int (p3)] xev K 0 0 := by
  unfold XM
  refine Met.ofW (cc := cX4_setLast) (maxL := 5) (ret := none) (by decide) rfl ?_
  intro p e s m args below meth c s₁ B hml hv
  obtain ⟨rfl, hB0, hP, hK, hN⟩ := hv
  have hx := B.exec
  have hb := B.bytes
  have hr := B.returns
  have hts := atoms_spec (ws := wsX4_setLast) B.pre
  have hown : s.vm.findClass RX4 = some m.cls := findClass_of_methodNamed B.named
  have hlocks := B.notSynchronized
  have iX4 : ∀ w ∈ u_ws RX4 TX4 9, w ∈ wsX4_setLast := by decide +kernel
  have f_21 := hts (.fieldLink RX4 21 "LogSpooler$Sender" "lastFacility" "I") (by decide +kernel)
  have f_24 := hts (.fieldLink RX4 24 "LogSpooler$Sender" "lastSeverity" "I") (by decide +kernel)
  have f_27 := hts (.fieldLink RX4 27 "LogSpooler$Sender" "lastText" "I") (by decide +kernel)
  have f_30 := hts (.fieldLink RX4 30 "LogSpooler$Sender" "lastLength" "I") (by decide +kernel)
  have hS : va_S (fun q => B0 ≤ q) s.heap s.heap [] := va_S.rf
  have hl := lv_entry ([.ref (ad (k)), .int (p0), .int (p1), .int (p2), .int (p3)]) (n := 5) (Nat.le_of_ble_eq_true rfl)
  rw [lg_entry_eq]
  generalize (lg_sl ([.ref (ad (k)), .int (p0), .int (p1), .int (p2), .int (p3)]) ++ List.replicate (5 - (lg_sl ([.ref (ad (k)), .int (p0), .int (p1), .int (p2), .int (p3)])).length) Slot.unset).toArray = ls at hl ⊢
  have hl : lv_has ls 5 [(0, .ref (ad (k))), (1, .int (p0)), (2, .int (p1)), (3, .int (p2)), (4, .int (p3))] := hl
  unfold w_X4_setLast at hw
  refine lv_aload_n hx hb dX4_setLast_0 rfl (lv_at hl 0 rfl) ?_
  refine lv_iload_n hx hb dX4_setLast_1 rfl (lv_at hl 1 rfl) ?_
  refine xg_put (C := RX4) (TC := TX4) (N := 9) hx hb hts iX4 tyX4 tyX4_ok nmX4 hown hK hP hA hS (xsS hk) rfl 5 (by decide) f_21 (fun _ h9 => h9) rfl rfl (ty := .int) (by decide +kernel) rfl rfl dX4_setLast_2 (fun H locs h1 eh1 hP hS => ?_)
  have hw := hw h1 eh1
  refine lv_aload_n hx hb dX4_setLast_5 rfl (lv_at hl 0 rfl) ?_
  refine lv_iload_n hx hb dX4_setLast_6 rfl (lv_at hl 2 rfl) ?_
  refine xg_put (C := RX4) (TC := TX4) (N := 9) hx hb hts iX4 tyX4 tyX4_ok nmX4 hown hK hP hA hS (xsS hk) rfl 6 (by decide) f_24 (fun _ h9 => h9) rfl rfl (ty := .int) (by decide +kernel) rfl rfl dX4_setLast_7 (fun H locs h2 eh2 hP hS => ?_)
  have hw := hw h2 eh2
  refine lv_aload_n hx hb dX4_setLast_10 rfl (lv_at hl 0 rfl) ?_
  refine lv_iload_n hx hb dX4_setLast_11 rfl (lv_at hl 3 rfl) ?_
  refine xg_put (C := RX4) (TC := TX4) (N := 9) hx hb hts iX4 tyX4 tyX4_ok nmX4 hown hK hP hA hS (xsS hk) rfl 7 (by decide) f_27 (fun _ h9 => h9) rfl rfl (ty := .int) (by decide +kernel) rfl rfl dX4_setLast_12 (fun H locs h3 eh3 hP hS => ?_)
  have hw := hw h3 eh3
  refine lv_aload_n hx hb dX4_setLast_15 rfl (lv_at hl 0 rfl) ?_
  refine lv_iload hx hb dX4_setLast_16 (lv_at hl 4 rfl) ?_
  refine xg_put (C := RX4) (TC := TX4) (N := 9) hx hb hts iX4 tyX4 tyX4_ok nmX4 hown hK hP hA hS (xsS hk) rfl 8 (by decide) f_30 (fun _ h9 => h9) rfl rfl (ty := .int) (by decide +kernel) rfl rfl dX4_setLast_18 (fun H locs h4 eh4 hP hS => ?_)
  have hw := hw h4 eh4
  exact xg_vrets hx hb hr hlocks hB0 hP hK hN hS dX4_setLast_21 (by decide) (by decide) hw
set_option maxHeartbeats 4000000 in
set_option maxRecDepth 100000 in
theorem c_X4_countRepeat (l : Launch) (hl9 : l.stackTraces = false) {B0 : Nat} {ad : Nat → Nat} {D : va_G} {T : Nat → ClassId} (hA : XA B0 ad) (k : Nat) (hk : 10 ≤ k ∧ k < 16) (p0 : Int32) {h : xH} {K : Unit → xH → Prop} (hw : w_X4_countRepeat k p0 h K) : XM l yX4_countRepeat wsX4_countRepeat ({ frames := 0, cells := 0, slots := 0, locals := 0 } : Room) B0 ad D T h [.ref (ad (k)), .int (p0)] xev K 0 0 := by
  unfold XM
  refine Met.ofW (cc := cX4_countRepeat) (maxL := 2) (ret := none) (by decide) rfl ?_
  intro p e s m args below meth c s₁ B hml hv
  obtain ⟨rfl, hB0, hP, hK, hN⟩ := hv
  have hx := B.exec
  have hb := B.bytes
  have hr := B.returns
  have hts := atoms_spec (ws := wsX4_countRepeat) B.pre
  have hown : s.vm.findClass RX4 = some m.cls := findClass_of_methodNamed B.named
  have hlocks := B.notSynchronized
  have iX4 : ∀ w ∈ u_ws RX4 TX4 9, w ∈ wsX4_countRepeat := by decide +kernel
  have f_9 := hts (.fieldLink RX4 9 "LogSpooler$Sender" "untoldRepeats" "I") (by decide +kernel)
  have f_15 := hts (.fieldLink RX4 15 "LogSpooler$Sender" "firstRepeat" "I") (by decide +kernel)
  have hS : va_S (fun q => B0 ≤ q) s.heap s.heap [] := va_S.rf
  have hl := lv_entry ([.ref (ad (k)), .int (p0)]) (n := 2) (Nat.le_of_ble_eq_true rfl)
  rw [lg_entry_eq]
  generalize (lg_sl ([.ref (ad (k)), .int (p0)]) ++ List.replicate (2 - (lg_sl ([.ref (ad (k)), .int (p0)])).length) Slot.unset).toArray = ls at hl ⊢
  have hl : lv_has ls 2 [(0, .ref (ad (k))), (1, .int (p0))] := hl
  have j_12 : ∀ (h : xH) (H : Heap) (locs : List Loc) (ls : Array Slot), w_X4_countRepeat_12 k p0 K h → XP ad D T h H → va_S (fun q => B0 ≤ q) s.heap H locs → lv_has ls 2 [(0, .ref (ad (k)))] → W p l e (headSpec wsX4_countRepeat ({ frames := 0, cells := 0, slots := 0, locals := 0 } : Room)).room s m ([.ref (ad (k)), .int (p0)] : List Value).toArray below meth c H locs 0 0 (MQ below (XQ B0 ad D T xev K) ([.ref (ad (k)), .int (p0)] : List Value).toArray s 0 0 (fun q => B0 ≤ q)) (F0 m 12 ls []) := by
    intro h H locs ls hw hP hS hl 
    unfold w_X4_countRepeat_12 at hw
    refine lv_aload_n hx hb dX4_countRepeat_12 rfl (lv_at hl 0 rfl) ?_
    refine lv_dup hx hb dX4_countRepeat_13 rfl ?_
    refine xg_get (C := RX4) (TC := TX4) (N := 9) hx hb hts iX4 hown hK hP (xsS hk) rfl 2 (by decide) f_9 (fun _ h9 => h9) rfl dX4_countRepeat_14 ?_
    refine lv_iconst (v := 1) hx hb dX4_countRepeat_17 (by decide) ?_
    refine lv_iadd hx hb dX4_countRepeat_18 ?_
    refine xg_put (C := RX4) (TC := TX4) (N := 9) hx hb hts iX4 tyX4 tyX4_ok nmX4 hown hK hP hA hS (xsS hk) rfl 2 (by decide) f_9 (fun _ h9 => h9) rfl rfl (ty := .int) (by decide +kernel) rfl rfl dX4_countRepeat_19 (fun H locs h3 eh3 hP hS => ?_)
    have hw := hw h3 eh3
    exact xg_vrets hx hb hr hlocks hB0 hP hK hN hS dX4_countRepeat_22 (by decide) (by decide) hw
  unfold w_X4_countRepeat at hw
  refine lv_aload_n hx hb dX4_countRepeat_0 rfl (lv_at hl 0 rfl) ?_
  refine xg_get (C := RX4) (TC := TX4) (N := 9) hx hb hts iX4 hown hK hP (xsS hk) rfl 2 (by decide) f_9 (fun _ h9 => h9) rfl dX4_countRepeat_1 ?_
  refine lv_if_ne (tgt := 12) hx hb dX4_countRepeat_4 (by decide) (fun c1 => ?_) (fun c1 => ?_)
  · have hw := hw.2 c1
    exact j_12   _ _ _ _ hw hP hS (lv_sub hl [0] rfl)
  · have hw := hw.1 c1
    refine lv_aload_n hx hb dX4_countRepeat_7 rfl (lv_at hl 0 rfl) ?_
    refine lv_iload_n hx hb dX4_countRepeat_8 rfl (lv_at hl 1 rfl) ?_
    refine xg_put (C := RX4) (TC := TX4) (N := 9) hx hb hts iX4 tyX4 tyX4_ok nmX4 hown hK hP hA hS (xsS hk) rfl 3 (by decide) f_15 (fun _ h9 => h9) rfl rfl (ty := .int) (by decide +kernel) rfl rfl dX4_countRepeat_9 (fun H locs h2 eh2 hP hS => ?_)
    have hw := hw h2 eh2
    exact j_12   _ _ _ _ hw hP hS (lv_sub hl [0] rfl)
