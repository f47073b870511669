set_option maxHeartbeats 4000000 in
set_option maxRecDepth 100000 in
theorem c_X5_isWithin (l : Launch) (hl9 : l.stackTraces = false) {B0 : Nat} {ad : Nat → Nat} {D : va_G} {T : Nat → ClassId} (hA : XA B0 ad) (p0 : Int32) (p1 : Int32) (p2 : Int32) {h : xH} {K : Int32 → xH → Prop} (hw : w_X5_isWithin p0 p1 p2 h K) : XM l yX5_isWithin wsX5_isWithin ({ frames := 0, cells := 0, slots := 0, locals := 0 } : Room) B0 ad D T h [.int (p0), .int (p1), .int (p2)] xei K 0 0 := by
  unfold XM
  refine Met.ofW (cc := cX5_isWithin) (maxL := 3) (ret := (some .boolean)) (by decide) rfl ?_
  intro p e s m args below meth c s₁ B hml hv
  obtain ⟨rfl, hB0, hP, hK, hN⟩ := hv
  have hx := B.exec
  have hb := B.bytes
  have hr := B.returns
  have hts := atoms_spec (ws := wsX5_isWithin) B.pre
  have hown : s.vm.findClass RX5 = some m.cls := findClass_of_methodNamed B.named
  have hlocks := B.notSynchronized
  have hS : va_S (fun q => B0 ≤ q) s.heap s.heap [] := va_S.rf
  have hl := lv_entry ([.int (p0), .int (p1), .int (p2)]) (n := 3) (Nat.le_of_ble_eq_true rfl)
  rw [lg_entry_eq]
  generalize (lg_sl ([.int (p0), .int (p1), .int (p2)]) ++ List.replicate (3 - (lg_sl ([.int (p0), .int (p1), .int (p2)])).length) Slot.unset).toArray = ls at hl ⊢
  have hl : lv_has ls 3 [(0, .int (p0)), (1, .int (p1)), (2, .int (p2))] := hl
  unfold w_X5_isWithin at hw
  refine lv_iload_n hx hb dX5_isWithin_0 rfl (lv_at hl 0 rfl) ?_
  refine lv_iload_n hx hb dX5_isWithin_1 rfl (lv_at hl 1 rfl) ?_
  refine lv_icmp_lt (tgt := 14) hx hb dX5_isWithin_2 (by decide) (fun c1 => ?_) (fun c1 => ?_)
  · have hw := hw.1 c1
    refine lv_iconst (v := 0) hx hb dX5_isWithin_14 (by decide) ?_
    exact xg_irets hx hb hr rfl hlocks hB0 hP hK hN hS dX5_isWithin_15 (by decide) (by decide) hw
  · have hw := hw.2 c1
    refine lv_iload_n hx hb dX5_isWithin_5 rfl (lv_at hl 0 rfl) ?_
    refine lv_iload_n hx hb dX5_isWithin_6 rfl (lv_at hl 2 rfl) ?_
    refine lv_icmp_gt (tgt := 14) hx hb dX5_isWithin_7 (by decide) (fun c2 => ?_) (fun c2 => ?_)
    · have hw := hw.1 c2
      refine lv_iconst (v := 0) hx hb dX5_isWithin_14 (by decide) ?_
      exact xg_irets hx hb hr rfl hlocks hB0 hP hK hN hS dX5_isWithin_15 (by decide) (by decide) hw
    · have hw := hw.2 c2
      refine lv_iconst (v := 1) hx hb dX5_isWithin_10 (by decide) ?_
      refine lv_goto (tgt := 15) hx hb dX5_isWithin_11 (by decide) ?_
      exact xg_irets hx hb hr rfl hlocks hB0 hP hK hN hS dX5_isWithin_15 (by decide) (by decide) hw
set_option maxHeartbeats 4000000 in
set_option maxRecDepth 100000 in
theorem c_X5_setRate (l : Launch) (hl9 : l.stackTraces = false) {B0 : Nat} {ad : Nat → Nat} {D : va_G} {T : Nat → ClassId} (hA : XA B0 ad) (p0 : Int32) (p1 : Int32) {h : xH} {K : Int32 → xH → Prop} (hw : w_X5_setRate p0 p1 h K) : XM l yX5_setRate wsX5_setRate ({ frames := 1, cells := 0, slots := 0, locals := 22 } : Room) B0 ad D T h [.ref (ad (0)), .int (p0), .int (p1)] xei K 0 0 := by
  unfold XM
  refine Met.ofW (cc := cX5_setRate) (maxL := 5) (ret := (some .int)) (by decide) rfl ?_
  intro p e s m args below meth c s₁ B hml hv
  obtain ⟨rfl, hB0, hP, hK, hN⟩ := hv
  have hx := B.exec
  have hb := B.bytes
  have hr := B.returns
  have hts := atoms_spec (ws := wsX5_setRate) B.pre
  have hown : s.vm.findClass RX5 = some m.cls := findClass_of_methodNamed B.named
  have hlocks := B.notSynchronized
  have iX5 : ∀ w ∈ u_ws RX5 TX5 9, w ∈ wsX5_setRate := by decide +kernel
  have f_11 := hts (.fieldLink RX5 11 "LogSpooler" "senders" "[LLogSpooler$Sender;") (by decide +kernel)
  have f_45 := hts (.fieldLink RX5 45 "LogSpooler" "burst" "I") (by decide +kernel)
  have f_48 := hts (.fieldLink RX5 48 "LogSpooler" "tokenTime" "I") (by decide +kernel)
  have hS : va_S (fun q => B0 ≤ q) s.heap s.heap [] := va_S.rf
  have hl := lv_entry ([.ref (ad (0)), .int (p0), .int (p1)]) (n := 5) (Nat.le_of_ble_eq_true rfl)
  rw [lg_entry_eq]
  generalize (lg_sl ([.ref (ad (0)), .int (p0), .int (p1)]) ++ List.replicate (5 - (lg_sl ([.ref (ad (0)), .int (p0), .int (p1)])).length) Slot.unset).toArray = ls at hl ⊢
  have hl : lv_has ls 5 [(0, .ref (ad (0))), (1, .int (p0)), (2, .int (p1))] := hl
  have j_48 : ∀ (n : Nat) (v3 : Int32) (v4 : Int32) (h : xH) (H : Heap) (locs : List Loc) (ls : Array Slot), w_X5_setRate_48 p0 p1 K n v3 v4 h → XP ad D T h H → va_S (fun q => B0 ≤ q) s.heap H locs → lv_has ls 5 [(0, .ref (ad (0))), (1, .int (p0)), (3, .int (v3)), (4, .int (v4))] → W p l e (headSpec wsX5_setRate ({ frames := 1, cells := 0, slots := 0, locals := 22 } : Room)).room s m ([.ref (ad (0)), .int (p0), .int (p1)] : List Value).toArray below meth c H locs 0 0 (MQ below (XQ B0 ad D T xei K) ([.ref (ad (0)), .int (p0), .int (p1)] : List Value).toArray s 0 0 (fun q => B0 ≤ q)) (F0 m 48 ls []) := by
    intro n
    induction n with
    | zero => intro v3 v4 h H locs ls hw; exact hw.elim
    | succ n9 ih =>
      intro v3 v4 h H locs ls hw hP hS hl 
      rw [w_X5_setRate_48_s] at hw
      refine lv_iload hx hb dX5_setRate_48 (lv_at hl 3 rfl) ?_
      refine lv_bipush (v := 6) hx hb dX5_setRate_50 (by decide) ?_
      refine lv_icmp_ge (tgt := 72) hx hb dX5_setRate_52 (by decide) (fun c10 => ?_) (fun c10 => ?_)
      · have hw := hw.1 c10
        refine lv_iload_n hx hb dX5_setRate_72 rfl (lv_at hl 2 rfl) ?_
        exact xg_irets hx hb hr rfl hlocks hB0 hP hK hN hS dX5_setRate_73 (by decide) (by decide) hw
      · have hw := hw.2 c10
        refine lv_aload_n hx hb dX5_setRate_55 rfl (lv_at hl 0 rfl) ?_
        refine xg_getr (C := RX5) (TC := TX5) (N := 9) hx hb hts iX5 hown hK hP xs0 rfl 0 (by decide) f_11 (fun _ h9 => h9) rfl dX5_setRate_56 ?_
        refine lv_iload hx hb dX5_setRate_59 (lv_at hl 3 rfl) ?_
        obtain ⟨hi11, hw⟩ := hw
        refine xg_aald (t := 1) (C := RX4) hx hb hK hP xs1 rfl hi11 dX5_setRate_61 (fun hb12 => ?_)
        have hk13 : 10 ≤ (10 + v4.toNatClampNeg) ∧ (10 + v4.toNatClampNeg) < 16 := by omega
        refine lv_iload_n hx hb dX5_setRate_62 rfl (lv_at hl 1 rfl) ?_
        refine xg_callv (va_runV (As := [.int (p0)]) (rest := []) ⟨hx, hb, hml, hown, hts⟩ (c_X4_capTokens l hl9 hA (10 + v4.toNatClampNeg) hk13 p0 hw) (cwV 1 hts gX5_setRate_X4_capTokens rfl rfl rfl (by decide +kernel) ⟨Nat.le_of_ble_eq_true rfl, Nat.le_of_ble_eq_true rfl⟩) (xg_preV hB0 hP hK hN hS (xsS hk13) rfl) rfl rfl hl.1 rfl (lv_room (Nat.le_of_ble_eq_true rfl)) dX5_setRate_63 ⟨Nat.le_of_ble_eq_true rfl, Nat.le_of_ble_eq_true rfl⟩) hS (fun _ h15 H locs hw hP hS => ?_)
        obtain ⟨x16, ex16⟩ : ∃ z : Int32, z = v4 + 1 := ⟨_, rfl⟩
        have hw := hw x16 ex16
        refine lv_iinc (v := x16) (lv' := [(4, .int (x16)), (0, .ref (ad (0))), (1, .int (p0)), (3, .int (v3))]) hx hb dX5_setRate_66 hl (k := 3) rfl (by rw [ex16]; rfl) (by decide) rfl (fun ls hl => ?_)
        refine lv_goto (tgt := 48) hx hb dX5_setRate_69 (by decide) ?_
        exact ih (v3) (x16) _ _ _ _ hw hP hS (lv_sub hl [1, 2, 3, 0] rfl)
  unfold w_X5_setRate at hw
  refine lv_iload_n hx hb dX5_setRate_0 rfl (lv_at hl 1 rfl) ?_
  refine lv_iconst (v := 1) hx hb dX5_setRate_1 (by decide) ?_
  refine lv_bipush (v := 50) hx hb dX5_setRate_2 (by decide) ?_
  refine xg_calli (va_runS (As := [.int (p0), .int (1), .int (50)]) (rest := []) ⟨hx, hb, hml, hown, hts⟩ (c_X5_isWithin l hl9 hA p0 (1 : Int32) (50 : Int32) hw) (va_cwS 3 hts gX5_setRate_X5_isWithin rfl rfl rfl (by decide +kernel) ⟨Nat.le_of_ble_eq_true rfl, Nat.le_of_ble_eq_true rfl⟩) (xg_preS hB0 hP hK hN hS) rfl rfl hl.1 rfl (lv_room (Nat.le_of_ble_eq_true rfl)) dX5_setRate_4 ⟨Nat.le_of_ble_eq_true rfl, Nat.le_of_ble_eq_true rfl⟩) hS (fun r1 h2 H locs hw hP hS => ?_)
  refine lv_if_eq (tgt := 20) hx hb dX5_setRate_7 (by decide) (fun c3 => ?_) (fun c3 => ?_)
  · have hw := hw.1 c3
    exact hw.elim
  · have hw := hw.2 c3
    refine lv_iload_n hx hb dX5_setRate_10 rfl (lv_at hl 2 rfl) ?_
    refine lv_iconst (v := 1) hx hb dX5_setRate_11 (by decide) ?_
    refine lv_bipush (v := 60) hx hb dX5_setRate_12 (by decide) ?_
    refine xg_calli (va_runS (As := [.int (p1), .int (1), .int (60)]) (rest := []) ⟨hx, hb, hml, hown, hts⟩ (c_X5_isWithin l hl9 hA p1 (1 : Int32) (60 : Int32) hw) (va_cwS 3 hts gX5_setRate_X5_isWithin rfl rfl rfl (by decide +kernel) ⟨Nat.le_of_ble_eq_true rfl, Nat.le_of_ble_eq_true rfl⟩) (xg_preS hB0 hP hK hN hS) rfl rfl hl.1 rfl (lv_room (Nat.le_of_ble_eq_true rfl)) dX5_setRate_14 ⟨Nat.le_of_ble_eq_true rfl, Nat.le_of_ble_eq_true rfl⟩) hS (fun r4 h5 H locs hw hP hS => ?_)
    refine lv_if_ne (tgt := 30) hx hb dX5_setRate_17 (by decide) (fun c6 => ?_) (fun c6 => ?_)
    · have hw := hw.2 c6
      refine lv_aload_n hx hb dX5_setRate_30 rfl (lv_at hl 0 rfl) ?_
      refine xg_get (C := RX5) (TC := TX5) (N := 9) hx hb hts iX5 hown hK hP xs0 rfl 6 (by decide) f_45 (fun _ h9 => h9) rfl dX5_setRate_31 ?_
      refine lv_topi (fun x7 ex7 => ?_)
      have hw := hw x7 ex7
      refine lv_istore_n (lv' := [(3, .int (x7)), (0, .ref (ad (0))), (1, .int (p0)), (2, .int (p1))]) hx hb dX5_setRate_34 rfl hl (by decide) rfl (fun ls hl => ?_)
      refine lv_aload_n hx hb dX5_setRate_35 rfl (lv_at hl 1 rfl) ?_
      refine lv_iload_n hx hb dX5_setRate_36 rfl (lv_at hl 2 rfl) ?_
      refine xg_put (C := RX5) (TC := TX5) (N := 9) hx hb hts iX5 tyX5 tyX5_ok nmX5 hown hK hP hA hS xs0 rfl 6 (by decide) f_45 (fun _ h9 => h9) rfl rfl (ty := .int) (by decide +kernel) rfl rfl dX5_setRate_37 (fun H locs h8 eh8 hP hS => ?_)
      have hw := hw h8 eh8
      refine lv_aload_n hx hb dX5_setRate_40 rfl (lv_at hl 1 rfl) ?_
      refine lv_iload_n hx hb dX5_setRate_41 rfl (lv_at hl 3 rfl) ?_
      refine xg_put (C := RX5) (TC := TX5) (N := 9) hx hb hts iX5 tyX5 tyX5_ok nmX5 hown hK hP hA hS xs0 rfl 7 (by decide) f_48 (fun _ h9 => h9) rfl rfl (ty := .int) (by decide +kernel) rfl rfl dX5_setRate_42 (fun H locs h9 eh9 hP hS => ?_)
      have hw := hw h9 eh9
      refine lv_iconst (v := 0) hx hb dX5_setRate_45 (by decide) ?_
      refine lv_istore (lv' := [(4, .int (0)), (3, .int (x7)), (0, .ref (ad (0))), (1, .int (p0)), (2, .int (p1))]) hx hb dX5_setRate_46 hl (by decide) rfl (fun ls hl => ?_)
      obtain ⟨n9, hw⟩ := hw
      exact j_48  n9 (x7) (0) _ _ _ _ hw hP hS (lv_sub hl [2, 3, 1, 0] rfl)
    · have hw := hw.1 c6
      exact hw.elim
set_option maxHeartbeats 4000000 in
set_option maxRecDepth 100000 in
theorem c_X5_setFold (l : Launch) (hl9 : l.stackTraces = false) {B0 : Nat} {ad : Nat → Nat} {D : va_G} {T : Nat → ClassId} (hA : XA B0 ad) (p0 : Int32) {h : xH} {K : Int32 → xH → Prop} (hw : w_X5_setFold p0 h K) : XM l yX5_setFold wsX5_setFold ({ frames := 1, cells := 0, slots := 0, locals := 22 } : Room) B0 ad D T h [.ref (ad (0)), .int (p0)] xei K 0 0 := by
  unfold XM
  refine Met.ofW (cc := cX5_setFold) (maxL := 3) (ret := (some .int)) (by decide) rfl ?_
  intro p e s m args below meth c s₁ B hml hv
  obtain ⟨rfl, hB0, hP, hK, hN⟩ := hv
  have hx := B.exec
  have hb := B.bytes
  have hr := B.returns
  have hts := atoms_spec (ws := wsX5_setFold) B.pre
  have hown : s.vm.findClass RX5 = some m.cls := findClass_of_methodNamed B.named
  have hlocks := B.notSynchronized
  have iX5 : ∀ w ∈ u_ws RX5 TX5 9, w ∈ wsX5_setFold := by decide +kernel
  have f_51 := hts (.fieldLink RX5 51 "LogSpooler" "foldTime" "I") (by decide +kernel)
  have hS : va_S (fun q => B0 ≤ q) s.heap s.heap [] := va_S.rf
  have hl := lv_entry ([.ref (ad (0)), .int (p0)]) (n := 3) (Nat.le_of_ble_eq_true rfl)
  rw [lg_entry_eq]
  generalize (lg_sl ([.ref (ad (0)), .int (p0)]) ++ List.replicate (3 - (lg_sl ([.ref (ad (0)), .int (p0)])).length) Slot.unset).toArray = ls at hl ⊢
  have hl : lv_has ls 3 [(0, .ref (ad (0))), (1, .int (p0))] := hl
  unfold w_X5_setFold at hw
  refine lv_iload_n hx hb dX5_setFold_0 rfl (lv_at hl 1 rfl) ?_
  refine lv_iconst (v := 0) hx hb dX5_setFold_1 (by decide) ?_
  refine lv_bipush (v := 100) hx hb dX5_setFold_2 (by decide) ?_
  refine xg_calli (va_runS (As := [.int (p0), .int (0), .int (100)]) (rest := []) ⟨hx, hb, hml, hown, hts⟩ (c_X5_isWithin l hl9 hA p0 (0 : Int32) (100 : Int32) hw) (va_cwS 3 hts gX5_setFold_X5_isWithin rfl rfl rfl (by decide +kernel) ⟨Nat.le_of_ble_eq_true rfl, Nat.le_of_ble_eq_true rfl⟩) (xg_preS hB0 hP hK hN hS) rfl rfl hl.1 rfl (lv_room (Nat.le_of_ble_eq_true rfl)) dX5_setFold_4 ⟨Nat.le_of_ble_eq_true rfl, Nat.le_of_ble_eq_true rfl⟩) hS (fun r1 h2 H locs hw hP hS => ?_)
  refine lv_if_ne (tgt := 20) hx hb dX5_setFold_7 (by decide) (fun c3 => ?_) (fun c3 => ?_)
  · have hw := hw.2 c3
    refine lv_aload_n hx hb dX5_setFold_20 rfl (lv_at hl 0 rfl) ?_
    refine xg_get (C := RX5) (TC := TX5) (N := 9) hx hb hts iX5 hown hK hP xs0 rfl 8 (by decide) f_51 (fun _ h9 => h9) rfl dX5_setFold_21 ?_
    refine lv_topi (fun x4 ex4 => ?_)
    have hw := hw x4 ex4
    refine lv_istore_n (lv' := [(2, .int (x4)), (0, .ref (ad (0))), (1, .int (p0))]) hx hb dX5_setFold_24 rfl hl (by decide) rfl (fun ls hl => ?_)
    refine lv_aload_n hx hb dX5_setFold_25 rfl (lv_at hl 1 rfl) ?_
    refine lv_iload_n hx hb dX5_setFold_26 rfl (lv_at hl 2 rfl) ?_
    refine xg_put (C := RX5) (TC := TX5) (N := 9) hx hb hts iX5 tyX5 tyX5_ok nmX5 hown hK hP hA hS xs0 rfl 8 (by decide) f_51 (fun _ h9 => h9) rfl rfl (ty := .int) (by decide +kernel) rfl rfl dX5_setFold_27 (fun H locs h5 eh5 hP hS => ?_)
    have hw := hw h5 eh5
    refine lv_iload_n hx hb dX5_setFold_30 rfl (lv_at hl 0 rfl) ?_
    exact xg_irets hx hb hr rfl hlocks hB0 hP hK hN hS dX5_setFold_31 (by decide) (by decide) hw
  · have hw := hw.1 c3
    exact hw.elim
set_option maxHeartbeats 4000000 in
set_option maxRecDepth 100000 in
theorem c_X5_ruleAt (l : Launch) (hl9 : l.stackTraces = false) {B0 : Nat} {ad : Nat → Nat} {D : va_G} {T : Nat → ClassId} (hA : XA B0 ad) (p0 : Int32) {h : xH} {K : Nat → xH → Prop} (hw : w_X5_ruleAt p0 h K) : XM l yX5_ruleAt wsX5_ruleAt ({ frames := 0, cells := 0, slots := 0, locals := 0 } : Room) B0 ad D T h [.ref (ad (0)), .int (p0)] (xer ad) K 0 0 := by
  unfold XM
  refine Met.ofW (cc := cX5_ruleAt) (maxL := 2) (ret := (some (.object "LogSpooler$Rule"))) (by decide) rfl ?_
  intro p e s m args below meth c s₁ B hml hv
  obtain ⟨rfl, hB0, hP, hK, hN⟩ := hv
  have hx := B.exec
  have hb := B.bytes
  have hr := B.returns
  have hts := atoms_spec (ws := wsX5_ruleAt) B.pre
  have hown : s.vm.findClass RX5 = some m.cls := findClass_of_methodNamed B.named
  have hlocks := B.notSynchronized
  have iX5 : ∀ w ∈ u_ws RX5 TX5 9, w ∈ wsX5_ruleAt := by decide +kernel
  have f_17 := hts (.fieldLink RX5 17 "LogSpooler" "rules" "[LLogSpooler$Rule;") (by decide +kernel)
  have hS : va_S (fun q => B0 ≤ q) s.heap s.heap [] := va_S.rf
  have hl := lv_entry ([.ref (ad (0)), .int (p0)]) (n := 2) (Nat.le_of_ble_eq_true rfl)
  rw [lg_entry_eq]
  generalize (lg_sl ([.ref (ad (0)), .int (p0)]) ++ List.replicate (2 - (lg_sl ([.ref (ad (0)), .int (p0)])).length) Slot.unset).toArray = ls at hl ⊢
  have hl : lv_has ls 2 [(0, .ref (ad (0))), (1, .int (p0))] := hl
  unfold w_X5_ruleAt at hw
  refine lv_iload_n hx hb dX5_ruleAt_0 rfl (lv_at hl 1 rfl) ?_
  refine lv_if_lt (tgt := 10) hx hb dX5_ruleAt_1 (by decide) (fun c1 => ?_) (fun c1 => ?_)
  · have hw := hw.1 c1
    exact hw.elim
  · have hw := hw.2 c1
    refine lv_iload_n hx hb dX5_ruleAt_4 rfl (lv_at hl 1 rfl) ?_
    refine lv_bipush (v := 6) hx hb dX5_ruleAt_5 (by decide) ?_
    refine lv_icmp_lt (tgt := 20) hx hb dX5_ruleAt_7 (by decide) (fun c2 => ?_) (fun c2 => ?_)
    · have hw := hw.1 c2
      refine lv_aload_n hx hb dX5_ruleAt_20 rfl (lv_at hl 0 rfl) ?_
      refine xg_getr (C := RX5) (TC := TX5) (N := 9) hx hb hts iX5 hown hK hP xs0 rfl 1 (by decide) f_17 (fun _ h9 => h9) rfl dX5_ruleAt_21 ?_
      refine lv_iload_n hx hb dX5_ruleAt_24 rfl (lv_at hl 1 rfl) ?_
      obtain ⟨hi3, hw⟩ := hw
      refine xg_aald (t := 2) (C := RX3) hx hb hK hP xs2 rfl hi3 dX5_ruleAt_25 (fun hb4 => ?_)
      have hk5 : 20 ≤ (20 + p0.toNatClampNeg) ∧ (20 + p0.toNatClampNeg) < 26 := by omega
      exact xg_arets (r := (20 + p0.toNatClampNeg)) hx hb hr (Or.inl ⟨_, rfl⟩) (Or.inr ⟨_, rfl⟩) rfl hlocks hB0 hP hK hN hS dX5_ruleAt_26 (by decide) (by decide) hw
    · have hw := hw.2 c2
      exact hw.elim
set_option maxHeartbeats 4000000 in
set_option maxRecDepth 100000 in
theorem c_X5_rulesThatAreSet (l : Launch) (hl9 : l.stackTraces = false) {B0 : Nat} {ad : Nat → Nat} {D : va_G} {T : Nat → ClassId} (hA : XA B0 ad) {h : xH} {K : Int32 → xH → Prop} (hw : w_X5_rulesThatAreSet h K) : XM l yX5_rulesThatAreSet wsX5_rulesThatAreSet ({ frames := 0, cells := 0, slots := 0, locals := 0 } : Room) B0 ad D T h [.ref (ad (0))] xei K 0 0 := by
  unfold XM
  refine Met.ofW (cc := cX5_rulesThatAreSet) (maxL := 3) (ret := (some .int)) (by decide) rfl ?_
  intro p e s m args below meth c s₁ B hml hv
  obtain ⟨rfl, hB0, hP, hK, hN⟩ := hv
  have hx := B.exec
  have hb := B.bytes
  have hr := B.returns
  have hts := atoms_spec (ws := wsX5_rulesThatAreSet) B.pre
  have hown : s.vm.findClass RX5 = some m.cls := findClass_of_methodNamed B.named
  have hlocks := B.notSynchronized
  have iX3 : ∀ w ∈ u_ws RX3 TX3 5, w ∈ wsX5_rulesThatAreSet := by decide +kernel
  have iX5 : ∀ w ∈ u_ws RX5 TX5 9, w ∈ wsX5_rulesThatAreSet := by decide +kernel
  have f_17 := hts (.fieldLink RX5 17 "LogSpooler" "rules" "[LLogSpooler$Rule;") (by decide +kernel)
  have f_95 := hts (.fieldLink RX5 95 "LogSpooler$Rule" "isSet" "Z") (by decide +kernel)
  have hS : va_S (fun q => B0 ≤ q) s.heap s.heap [] := va_S.rf
  have hl := lv_entry ([.ref (ad (0))]) (n := 3) (Nat.le_of_ble_eq_true rfl)
  rw [lg_entry_eq]
  generalize (lg_sl ([.ref (ad (0))]) ++ List.replicate (3 - (lg_sl ([.ref (ad (0))])).length) Slot.unset).toArray = ls at hl ⊢
  have hl : lv_has ls 3 [(0, .ref (ad (0)))] := hl
  have j_25 : ∀ (R4 : Int32 → Int32 → xH → Prop) (hR4 : ∀ (v1 : Int32) (v2 : Int32) (h : xH) (H : Heap) (locs : List Loc) (ls : Array Slot), R4 v1 v2 h → XP ad D T h H → va_S (fun q => B0 ≤ q) s.heap H locs → lv_has ls 3 [(0, .ref (ad (0))), (1, .int (v1)), (2, .int (v2))] → W p l e (headSpec wsX5_rulesThatAreSet ({ frames := 0, cells := 0, slots := 0, locals := 0 } : Room)).room s m ([.ref (ad (0))] : List Value).toArray below meth c H locs 0 0 (MQ below (XQ B0 ad D T xei K) ([.ref (ad (0))] : List Value).toArray s 0 0 (fun q => B0 ≤ q)) (F0 m 4 ls [])) (v1 : Int32) (v2 : Int32) (h : xH) (H : Heap) (locs : List Loc) (ls : Array Slot), w_X5_rulesThatAreSet_25 K R4 v1 v2 h → XP ad D T h H → va_S (fun q => B0 ≤ q) s.heap H locs → lv_has ls 3 [(0, .ref (ad (0))), (1, .int (v1)), (2, .int (v2))] → W p l e (headSpec wsX5_rulesThatAreSet ({ frames := 0, cells := 0, slots := 0, locals := 0 } : Room)).room s m ([.ref (ad (0))] : List Value).toArray below meth c H locs 0 0 (MQ below (XQ B0 ad D T xei K) ([.ref (ad (0))] : List Value).toArray s 0 0 (fun q => B0 ≤ q)) (F0 m 25 ls []) := by
    intro R4 hR4 v1 v2 h H locs ls hw hP hS hl 
    unfold w_X5_rulesThatAreSet_25 at hw
    obtain ⟨x7, ex7⟩ : ∃ z : Int32, z = v2 + 1 := ⟨_, rfl⟩
    have hw := hw x7 ex7
    refine lv_iinc (v := x7) (lv' := [(2, .int (x7)), (0, .ref (ad (0))), (1, .int (v1))]) hx hb dX5_rulesThatAreSet_25 hl (k := 2) rfl (by rw [ex7]; rfl) (by decide) rfl (fun ls hl => ?_)
    refine lv_goto (tgt := 4) hx hb dX5_rulesThatAreSet_28 (by decide) ?_
    exact hR4 (v1) (x7) _ _ _ _ hw hP hS (lv_sub hl [1, 2, 0] rfl)
  have j_4 : ∀ (n : Nat) (v1 : Int32) (v2 : Int32) (h : xH) (H : Heap) (locs : List Loc) (ls : Array Slot), w_X5_rulesThatAreSet_4 K n v1 v2 h → XP ad D T h H → va_S (fun q => B0 ≤ q) s.heap H locs → lv_has ls 3 [(0, .ref (ad (0))), (1, .int (v1)), (2, .int (v2))] → W p l e (headSpec wsX5_rulesThatAreSet ({ frames := 0, cells := 0, slots := 0, locals := 0 } : Room)).room s m ([.ref (ad (0))] : List Value).toArray below meth c H locs 0 0 (MQ below (XQ B0 ad D T xei K) ([.ref (ad (0))] : List Value).toArray s 0 0 (fun q => B0 ≤ q)) (F0 m 4 ls []) := by
    intro n
    induction n with
    | zero => intro v1 v2 h H locs ls hw; exact hw.elim
    | succ n9 ih =>
      intro v1 v2 h H locs ls hw hP hS hl 
      rw [w_X5_rulesThatAreSet_4_s] at hw
      refine lv_iload_n hx hb dX5_rulesThatAreSet_4 rfl (lv_at hl 2 rfl) ?_
      refine lv_bipush (v := 6) hx hb dX5_rulesThatAreSet_5 (by decide) ?_
      refine lv_icmp_ge (tgt := 31) hx hb dX5_rulesThatAreSet_7 (by decide) (fun c1 => ?_) (fun c1 => ?_)
      · have hw := hw.1 c1
        refine lv_iload_n hx hb dX5_rulesThatAreSet_31 rfl (lv_at hl 1 rfl) ?_
        exact xg_irets hx hb hr rfl hlocks hB0 hP hK hN hS dX5_rulesThatAreSet_32 (by decide) (by decide) hw
      · have hw := hw.2 c1
        refine lv_aload_n hx hb dX5_rulesThatAreSet_10 rfl (lv_at hl 0 rfl) ?_
        refine xg_getr (C := RX5) (TC := TX5) (N := 9) hx hb hts iX5 hown hK hP xs0 rfl 1 (by decide) f_17 (fun _ h9 => h9) rfl dX5_rulesThatAreSet_11 ?_
        refine lv_iload_n hx hb dX5_rulesThatAreSet_14 rfl (lv_at hl 2 rfl) ?_
        obtain ⟨hi2, hw⟩ := hw
        refine xg_aald (t := 2) (C := RX3) hx hb hK hP xs2 rfl hi2 dX5_rulesThatAreSet_15 (fun hb3 => ?_)
        have hk4 : 20 ≤ (20 + v2.toNatClampNeg) ∧ (20 + v2.toNatClampNeg) < 26 := by omega
        refine xg_get (C := RX3) (TC := TX3) (N := 5) hx hb hts iX3 hown hK hP (xsR hk4) rfl 0 (by decide) f_95 (fun _ h9 => h9) rfl dX5_rulesThatAreSet_16 ?_
        refine lv_if_eq (tgt := 25) hx hb dX5_rulesThatAreSet_19 (by decide) (fun c5 => ?_) (fun c5 => ?_)
        · have hw := hw.1 c5
          exact j_25 _ (ih) (v1) (v2) _ _ _ _ hw hP hS (lv_sub hl [0, 1, 2] rfl)
        · have hw := hw.2 c5
          obtain ⟨x6, ex6⟩ : ∃ z : Int32, z = v1 + 1 := ⟨_, rfl⟩
          have hw := hw x6 ex6
          refine lv_iinc (v := x6) (lv' := [(1, .int (x6)), (0, .ref (ad (0))), (2, .int (v2))]) hx hb dX5_rulesThatAreSet_22 hl (k := 1) rfl (by rw [ex6]; rfl) (by decide) rfl (fun ls hl => ?_)
          exact j_25 _ (ih) (x6) (v2) _ _ _ _ hw hP hS (lv_sub hl [1, 0, 2] rfl)
  unfold w_X5_rulesThatAreSet at hw
  refine lv_iconst (v := 0) hx hb dX5_rulesThatAreSet_0 (by decide) ?_
  refine lv_istore_n (lv' := [(1, .int (0)), (0, .ref (ad (0)))]) hx hb dX5_rulesThatAreSet_1 rfl hl (by decide) rfl (fun ls hl => ?_)
  refine lv_iconst (v := 0) hx hb dX5_rulesThatAreSet_2 (by decide) ?_
  refine lv_istore_n (lv' := [(2, .int (0)), (1, .int (0)), (0, .ref (ad (0)))]) hx hb dX5_rulesThatAreSet_3 rfl hl (by decide) rfl (fun ls hl => ?_)
  obtain ⟨n9, hw⟩ := hw
  exact j_4  n9 (0) (0) _ _ _ _ hw hP hS (lv_sub hl [2, 1, 0] rfl)
set_option maxHeartbeats 4000000 in
set_option maxRecDepth 100000 in
theorem c_X5_setRule (l : Launch) (hl9 : l.stackTraces = false) {B0 : Nat} {ad : Nat → Nat} {D : va_G} {T : Nat → ClassId} (hA : XA B0 ad) (p0 : Int32) (p1 : Int32) (p2 : Int32) (p3 : Int32) (p4 : Int32) {h : xH} {K : Int32 → xH → Prop} (hw : w_X5_setRule p0 p1 p2 p3 p4 h K) : XM l yX5_setRule wsX5_setRule ({ frames := 1, cells := 0, slots := 0, locals := 24 } : Room) B0 ad D T h [.ref (ad (0)), .int (p0), .int (p1), .int (p2), .int (p3), .int (p4)] xei K 0 0 := by
  unfold XM
  refine Met.ofW (cc := cX5_setRule) (maxL := 7) (ret := (some .int)) (by decide) rfl ?_
  intro p e s m args below meth c s₁ B hml hv
  obtain ⟨rfl, hB0, hP, hK, hN⟩ := hv
  have hx := B.exec
  have hb := B.bytes
  have hr := B.returns
  have hts := atoms_spec (ws := wsX5_setRule) B.pre
  have hown : s.vm.findClass RX5 = some m.cls := findClass_of_methodNamed B.named
  have hlocks := B.notSynchronized
  have hS : va_S (fun q => B0 ≤ q) s.heap s.heap [] := va_S.rf
  have hl := lv_entry ([.ref (ad (0)), .int (p0), .int (p1), .int (p2), .int (p3), .int (p4)]) (n := 7) (Nat.le_of_ble_eq_true rfl)
  rw [lg_entry_eq]
  generalize (lg_sl ([.ref (ad (0)), .int (p0), .int (p1), .int (p2), .int (p3), .int (p4)]) ++ List.replicate (7 - (lg_sl ([.ref (ad (0)), .int (p0), .int (p1), .int (p2), .int (p3), .int (p4)])).length) Slot.unset).toArray = ls at hl ⊢
  have hl : lv_has ls 7 [(0, .ref (ad (0))), (1, .int (p0)), (2, .int (p1)), (3, .int (p2)), (4, .int (p3)), (5, .int (p4))] := hl
  unfold w_X5_setRule at hw
  refine lv_aload_n hx hb dX5_setRule_0 rfl (lv_at hl 0 rfl) ?_
  refine lv_iload_n hx hb dX5_setRule_1 rfl (lv_at hl 1 rfl) ?_
  refine xg_callr (va_runV (As := [.int (p0)]) (rest := []) ⟨hx, hb, hml, hown, hts⟩ (c_X5_ruleAt l hl9 hA p0 hw) (cwV 1 hts gX5_setRule_X5_ruleAt rfl rfl rfl (by decide +kernel) ⟨Nat.le_of_ble_eq_true rfl, Nat.le_of_ble_eq_true rfl⟩) (xg_preV hB0 hP hK hN hS xs0 rfl) rfl rfl hl.1 rfl (lv_room (Nat.le_of_ble_eq_true rfl)) dX5_setRule_2 ⟨Nat.le_of_ble_eq_true rfl, Nat.le_of_ble_eq_true rfl⟩) hS (fun r1 h2 H locs hw hP hS => ?_)
  obtain ⟨hk3, hw⟩ := hw
  refine lv_astore (lv' := [(6, .ref (ad (r1))), (0, .ref (ad (0))), (1, .int (p0)), (2, .int (p1)), (3, .int (p2)), (4, .int (p3)), (5, .int (p4))]) hx hb dX5_setRule_5 hl (by decide) rfl (fun ls hl => ?_)
  refine lv_iload hx hb dX5_setRule_7 (lv_at hl 5 rfl) ?_
  refine lv_iconst (v := (-1)) hx hb dX5_setRule_9 (by decide) ?_
  refine lv_iconst (v := 5) hx hb dX5_setRule_10 (by decide) ?_
  refine xg_calli (va_runS (As := [.int (p3), .int ((-1)), .int (5)]) (rest := []) ⟨hx, hb, hml, hown, hts⟩ (c_X5_isWithin l hl9 hA p3 ((-1) : Int32) (5 : Int32) hw) (va_cwS 3 hts gX5_setRule_X5_isWithin rfl rfl rfl (by decide +kernel) ⟨Nat.le_of_ble_eq_true rfl, Nat.le_of_ble_eq_true rfl⟩) (xg_preS hB0 hP hK hN hS) rfl rfl hl.1 rfl (lv_room (Nat.le_of_ble_eq_true rfl)) dX5_setRule_11 ⟨Nat.le_of_ble_eq_true rfl, Nat.le_of_ble_eq_true rfl⟩) hS (fun r4 h5 H locs hw hP hS => ?_)
  refine lv_if_ne (tgt := 27) hx hb dX5_setRule_14 (by decide) (fun c6 => ?_) (fun c6 => ?_)
  · have hw := hw.2 c6
    refine lv_iload_n hx hb dX5_setRule_27 rfl (lv_at hl 3 rfl) ?_
    refine lv_iconst (v := 0) hx hb dX5_setRule_28 (by decide) ?_
    refine lv_sipush (v := 255) hx hb dX5_setRule_29 (by decide) ?_
    refine xg_calli (va_runS (As := [.int (p1), .int (0), .int (255)]) (rest := []) ⟨hx, hb, hml, hown, hts⟩ (c_X5_isWithin l hl9 hA p1 (0 : Int32) (255 : Int32) hw) (va_cwS 3 hts gX5_setRule_X5_isWithin rfl rfl rfl (by decide +kernel) ⟨Nat.le_of_ble_eq_true rfl, Nat.le_of_ble_eq_true rfl⟩) (xg_preS hB0 hP hK hN hS) rfl rfl hl.1 rfl (lv_room (Nat.le_of_ble_eq_true rfl)) dX5_setRule_32 ⟨Nat.le_of_ble_eq_true rfl, Nat.le_of_ble_eq_true rfl⟩) hS (fun r7 h8 H locs hw hP hS => ?_)
    refine lv_if_eq (tgt := 58) hx hb dX5_setRule_35 (by decide) (fun c9 => ?_) (fun c9 => ?_)
    · have hw := hw.1 c9
      exact hw.elim
    · have hw := hw.2 c9
      refine lv_iload_n hx hb dX5_setRule_38 rfl (lv_at hl 4 rfl) ?_
      refine lv_iconst (v := 0) hx hb dX5_setRule_39 (by decide) ?_
      refine lv_bipush (v := 7) hx hb dX5_setRule_40 (by decide) ?_
      refine xg_calli (va_runS (As := [.int (p2), .int (0), .int (7)]) (rest := []) ⟨hx, hb, hml, hown, hts⟩ (c_X5_isWithin l hl9 hA p2 (0 : Int32) (7 : Int32) hw) (va_cwS 3 hts gX5_setRule_X5_isWithin rfl rfl rfl (by decide +kernel) ⟨Nat.le_of_ble_eq_true rfl, Nat.le_of_ble_eq_true rfl⟩) (xg_preS hB0 hP hK hN hS) rfl rfl hl.1 rfl (lv_room (Nat.le_of_ble_eq_true rfl)) dX5_setRule_42 ⟨Nat.le_of_ble_eq_true rfl, Nat.le_of_ble_eq_true rfl⟩) hS (fun r10 h11 H locs hw hP hS => ?_)
      refine lv_if_eq (tgt := 58) hx hb dX5_setRule_45 (by decide) (fun c12 => ?_) (fun c12 => ?_)
      · have hw := hw.1 c12
        exact hw.elim
      · have hw := hw.2 c12
        refine lv_iload hx hb dX5_setRule_48 (lv_at hl 6 rfl) ?_
        refine lv_iconst (v := 0) hx hb dX5_setRule_50 (by decide) ?_
        refine lv_iconst (v := 4) hx hb dX5_setRule_51 (by decide) ?_
        refine xg_calli (va_runS (As := [.int (p4), .int (0), .int (4)]) (rest := []) ⟨hx, hb, hml, hown, hts⟩ (c_X5_isWithin l hl9 hA p4 (0 : Int32) (4 : Int32) hw) (va_cwS 3 hts gX5_setRule_X5_isWithin rfl rfl rfl (by decide +kernel) ⟨Nat.le_of_ble_eq_true rfl, Nat.le_of_ble_eq_true rfl⟩) (xg_preS hB0 hP hK hN hS) rfl rfl hl.1 rfl (lv_room (Nat.le_of_ble_eq_true rfl)) dX5_setRule_52 ⟨Nat.le_of_ble_eq_true rfl, Nat.le_of_ble_eq_true rfl⟩) hS (fun r13 h14 H locs hw hP hS => ?_)
        refine lv_if_ne (tgt := 68) hx hb dX5_setRule_55 (by decide) (fun c15 => ?_) (fun c15 => ?_)
        · have hw := hw.2 c15
          refine lv_aload hx hb dX5_setRule_68 (lv_at hl 0 rfl) ?_
          refine lv_iload_n hx hb dX5_setRule_70 rfl (lv_at hl 3 rfl) ?_
          refine lv_iload_n hx hb dX5_setRule_71 rfl (lv_at hl 4 rfl) ?_
          refine lv_iload hx hb dX5_setRule_72 (lv_at hl 5 rfl) ?_
          refine lv_iload hx hb dX5_setRule_74 (lv_at hl 6 rfl) ?_
          refine xg_callv (va_runV (As := [.int (p1), .int (p2), .int (p3), .int (p4)]) (rest := []) ⟨hx, hb, hml, hown, hts⟩ (c_X3_put l hl9 hA r1 hk3 p1 p2 p3 p4 hw) (cwV 4 hts gX5_setRule_X3_put rfl rfl rfl (by decide +kernel) ⟨Nat.le_of_ble_eq_true rfl, Nat.le_of_ble_eq_true rfl⟩) (xg_preV hB0 hP hK hN hS (xsR hk3) rfl) rfl rfl hl.1 rfl (lv_room (Nat.le_of_ble_eq_true rfl)) dX5_setRule_76 ⟨Nat.le_of_ble_eq_true rfl, Nat.le_of_ble_eq_true rfl⟩) hS (fun _ h17 H locs hw hP hS => ?_)
          refine lv_aload_n hx hb dX5_setRule_79 rfl (lv_at hl 1 rfl) ?_
          refine xg_calli (va_runV (As := []) (rest := []) ⟨hx, hb, hml, hown, hts⟩ (c_X5_rulesThatAreSet l hl9 hA hw) (cwV 0 hts gX5_setRule_X5_rulesThatAreSet rfl rfl rfl (by decide +kernel) ⟨Nat.le_of_ble_eq_true rfl, Nat.le_of_ble_eq_true rfl⟩) (xg_preV hB0 hP hK hN hS xs0 rfl) rfl rfl hl.1 rfl (lv_room (Nat.le_of_ble_eq_true rfl)) dX5_setRule_80 ⟨Nat.le_of_ble_eq_true rfl, Nat.le_of_ble_eq_true rfl⟩) hS (fun r18 h19 H locs hw hP hS => ?_)
          exact xg_irets hx hb hr rfl hlocks hB0 hP hK hN hS dX5_setRule_83 (by decide) (by decide) hw
        · have hw := hw.1 c15
          exact hw.elim
  · have hw := hw.1 c6
    exact hw.elim
set_option maxHeartbeats 4000000 in
set_option maxRecDepth 100000 in
theorem c_X5_fileAt (l : Launch) (hl9 : l.stackTraces = false) {B0 : Nat} {ad : Nat → Nat} {D : va_G} {T : Nat → ClassId} (hA : XA B0 ad) (p0 : Int32) {h : xH} {K : Nat → xH → Prop} (hw : w_X5_fileAt p0 h K) : XM l yX5_fileAt wsX5_fileAt ({ frames := 0, cells := 0, slots := 0, locals := 0 } : Room) B0 ad D T h [.ref (ad (0)), .int (p0)] (xer ad) K 0 0 := by
  unfold XM
  refine Met.ofW (cc := cX5_fileAt) (maxL := 2) (ret := (some (.object "LogSpooler$LogFile"))) (by decide) rfl ?_
  intro p e s m args below meth c s₁ B hml hv
  obtain ⟨rfl, hB0, hP, hK, hN⟩ := hv
  have hx := B.exec
  have hb := B.bytes
  have hr := B.returns
  have hts := atoms_spec (ws := wsX5_fileAt) B.pre
  have hown : s.vm.findClass RX5 = some m.cls := findClass_of_methodNamed B.named
  have hlocks := B.notSynchronized
  have iX5 : ∀ w ∈ u_ws RX5 TX5 9, w ∈ wsX5_fileAt := by decide +kernel
  have f_23 := hts (.fieldLink RX5 23 "LogSpooler" "files" "[LLogSpooler$LogFile;") (by decide +kernel)
  have hS : va_S (fun q => B0 ≤ q) s.heap s.heap [] := va_S.rf
  have hl := lv_entry ([.ref (ad (0)), .int (p0)]) (n := 2) (Nat.le_of_ble_eq_true rfl)
  rw [lg_entry_eq]
  generalize (lg_sl ([.ref (ad (0)), .int (p0)]) ++ List.replicate (2 - (lg_sl ([.ref (ad (0)), .int (p0)])).length) Slot.unset).toArray = ls at hl ⊢
  have hl : lv_has ls 2 [(0, .ref (ad (0))), (1, .int (p0))] := hl
  unfold w_X5_fileAt at hw
  refine lv_iload_n hx hb dX5_fileAt_0 rfl (lv_at hl 1 rfl) ?_
  refine lv_if_lt (tgt := 9) hx hb dX5_fileAt_1 (by decide) (fun c1 => ?_) (fun c1 => ?_)
  · have hw := hw.1 c1
    exact hw.elim
  · have hw := hw.2 c1
    refine lv_iload_n hx hb dX5_fileAt_4 rfl (lv_at hl 1 rfl) ?_
    refine lv_iconst (v := 4) hx hb dX5_fileAt_5 (by decide) ?_
    refine lv_icmp_lt (tgt := 19) hx hb dX5_fileAt_6 (by decide) (fun c2 => ?_) (fun c2 => ?_)
    · have hw := hw.1 c2
      refine lv_aload_n hx hb dX5_fileAt_19 rfl (lv_at hl 0 rfl) ?_
      refine xg_getr (C := RX5) (TC := TX5) (N := 9) hx hb hts iX5 hown hK hP xs0 rfl 2 (by decide) f_23 (fun _ h9 => h9) rfl dX5_fileAt_20 ?_
      refine lv_iload_n hx hb dX5_fileAt_23 rfl (lv_at hl 1 rfl) ?_
      obtain ⟨hi3, hw⟩ := hw
      refine xg_aald (t := 3) (C := RX2) hx hb hK hP xs3 rfl hi3 dX5_fileAt_24 (fun hb4 => ?_)
      have hk5 : 30 ≤ (30 + p0.toNatClampNeg) ∧ (30 + p0.toNatClampNeg) < 34 := by omega
      exact xg_arets (r := (30 + p0.toNatClampNeg)) hx hb hr (Or.inl ⟨_, rfl⟩) (Or.inr ⟨_, rfl⟩) rfl hlocks hB0 hP hK hN hS dX5_fileAt_25 (by decide) (by decide) hw
    · have hw := hw.2 c2
      exact hw.elim
set_option maxHeartbeats 4000000 in
set_option maxRecDepth 100000 in
theorem c_X5_setFile (l : Launch) (hl9 : l.stackTraces = false) {B0 : Nat} {ad : Nat → Nat} {D : va_G} {T : Nat → ClassId} (hA : XA B0 ad) (p0 : Int32) (p1 : Int32) (p2 : Int32) (p3 : Int32) {h : xH} {K : Int32 → xH → Prop} (hw : w_X5_setFile p0 p1 p2 p3 h K) : XM l yX5_setFile wsX5_setFile ({ frames := 1, cells := 0, slots := 0, locals := 23 } : Room) B0 ad D T h [.ref (ad (0)), .int (p0), .int (p1), .int (p2), .int (p3)] xei K 0 0 := by
  unfold XM
  refine Met.ofW (cc := cX5_setFile) (maxL := 6) (ret := (some .int)) (by decide) rfl ?_
  intro p e s m args below meth c s₁ B hml hv
  obtain ⟨rfl, hB0, hP, hK, hN⟩ := hv
  have hx := B.exec
  have hb := B.bytes
  have hr := B.returns
  have hts := atoms_spec (ws := wsX5_setFile) B.pre
  have hown : s.vm.findClass RX5 = some m.cls := findClass_of_methodNamed B.named
  have hlocks := B.notSynchronized
  have iX2 : ∀ w ∈ u_ws RX2 TX2 10, w ∈ wsX5_setFile := by decide +kernel
  have f_109 := hts (.fieldLink RX5 109 "LogSpooler$LogFile" "sumOfLengths" "I") (by decide +kernel)
  have hS : va_S (fun q => B0 ≤ q) s.heap s.heap [] := va_S.rf
  have hl := lv_entry ([.ref (ad (0)), .int (p0), .int (p1), .int (p2), .int (p3)]) (n := 6) (Nat.le_of_ble_eq_true rfl)
  rw [lg_entry_eq]
  generalize (lg_sl ([.ref (ad (0)), .int (p0), .int (p1), .int (p2), .int (p3)]) ++ List.replicate (6 - (lg_sl ([.ref (ad (0)), .int (p0), .int (p1), .int (p2), .int (p3)])).length) Slot.unset).toArray = ls at hl ⊢
  have hl : lv_has ls 6 [(0, .ref (ad (0))), (1, .int (p0)), (2, .int (p1)), (3, .int (p2)), (4, .int (p3))] := hl
  unfold w_X5_setFile at hw
  refine lv_aload_n hx hb dX5_setFile_0 rfl (lv_at hl 0 rfl) ?_
  refine lv_iload_n hx hb dX5_setFile_1 rfl (lv_at hl 1 rfl) ?_
  refine xg_callr (va_runV (As := [.int (p0)]) (rest := []) ⟨hx, hb, hml, hown, hts⟩ (c_X5_fileAt l hl9 hA p0 hw) (cwV 1 hts gX5_setFile_X5_fileAt rfl rfl rfl (by decide +kernel) ⟨Nat.le_of_ble_eq_true rfl, Nat.le_of_ble_eq_true rfl⟩) (xg_preV hB0 hP hK hN hS xs0 rfl) rfl rfl hl.1 rfl (lv_room (Nat.le_of_ble_eq_true rfl)) dX5_setFile_2 ⟨Nat.le_of_ble_eq_true rfl, Nat.le_of_ble_eq_true rfl⟩) hS (fun r1 h2 H locs hw hP hS => ?_)
  obtain ⟨hk3, hw⟩ := hw
  refine lv_astore (lv' := [(5, .ref (ad (r1))), (0, .ref (ad (0))), (1, .int (p0)), (2, .int (p1)), (3, .int (p2)), (4, .int (p3))]) hx hb dX5_setFile_5 hl (by decide) rfl (fun ls hl => ?_)
  refine lv_iload_n hx hb dX5_setFile_7 rfl (lv_at hl 3 rfl) ?_
  refine lv_sipush (v := 200) hx hb dX5_setFile_8 (by decide) ?_
  refine lv_sipush (v := 5000) hx hb dX5_setFile_11 (by decide) ?_
  refine xg_calli (va_runS (As := [.int (p1), .int (200), .int (5000)]) (rest := []) ⟨hx, hb, hml, hown, hts⟩ (c_X5_isWithin l hl9 hA p1 (200 : Int32) (5000 : Int32) hw) (va_cwS 3 hts gX5_setFile_X5_isWithin rfl rfl rfl (by decide +kernel) ⟨Nat.le_of_ble_eq_true rfl, Nat.le_of_ble_eq_true rfl⟩) (xg_preS hB0 hP hK hN hS) rfl rfl hl.1 rfl (lv_room (Nat.le_of_ble_eq_true rfl)) dX5_setFile_14 ⟨Nat.le_of_ble_eq_true rfl, Nat.le_of_ble_eq_true rfl⟩) hS (fun r4 h5 H locs hw hP hS => ?_)
  refine lv_if_eq (tgt := 41) hx hb dX5_setFile_17 (by decide) (fun c6 => ?_) (fun c6 => ?_)
  · have hw := hw.1 c6
    exact hw.elim
  · have hw := hw.2 c6
    refine lv_iload_n hx hb dX5_setFile_20 rfl (lv_at hl 4 rfl) ?_
    refine lv_iconst (v := 0) hx hb dX5_setFile_21 (by decide) ?_
    refine lv_sipush (v := 1000) hx hb dX5_setFile_22 (by decide) ?_
    refine xg_calli (va_runS (As := [.int (p2), .int (0), .int (1000)]) (rest := []) ⟨hx, hb, hml, hown, hts⟩ (c_X5_isWithin l hl9 hA p2 (0 : Int32) (1000 : Int32) hw) (va_cwS 3 hts gX5_setFile_X5_isWithin rfl rfl rfl (by decide +kernel) ⟨Nat.le_of_ble_eq_true rfl, Nat.le_of_ble_eq_true rfl⟩) (xg_preS hB0 hP hK hN hS) rfl rfl hl.1 rfl (lv_room (Nat.le_of_ble_eq_true rfl)) dX5_setFile_25 ⟨Nat.le_of_ble_eq_true rfl, Nat.le_of_ble_eq_true rfl⟩) hS (fun r7 h8 H locs hw hP hS => ?_)
    refine lv_if_eq (tgt := 41) hx hb dX5_setFile_28 (by decide) (fun c9 => ?_) (fun c9 => ?_)
    · have hw := hw.1 c9
      exact hw.elim
    · have hw := hw.2 c9
      refine lv_iload hx hb dX5_setFile_31 (lv_at hl 5 rfl) ?_
      refine lv_iconst (v := 0) hx hb dX5_setFile_33 (by decide) ?_
      refine lv_iconst (v := 5) hx hb dX5_setFile_34 (by decide) ?_
      refine xg_calli (va_runS (As := [.int (p3), .int (0), .int (5)]) (rest := []) ⟨hx, hb, hml, hown, hts⟩ (c_X5_isWithin l hl9 hA p3 (0 : Int32) (5 : Int32) hw) (va_cwS 3 hts gX5_setFile_X5_isWithin rfl rfl rfl (by decide +kernel) ⟨Nat.le_of_ble_eq_true rfl, Nat.le_of_ble_eq_true rfl⟩) (xg_preS hB0 hP hK hN hS) rfl rfl hl.1 rfl (lv_room (Nat.le_of_ble_eq_true rfl)) dX5_setFile_35 ⟨Nat.le_of_ble_eq_true rfl, Nat.le_of_ble_eq_true rfl⟩) hS (fun r10 h11 H locs hw hP hS => ?_)
      refine lv_if_ne (tgt := 51) hx hb dX5_setFile_38 (by decide) (fun c12 => ?_) (fun c12 => ?_)
      · have hw := hw.2 c12
        refine lv_aload hx hb dX5_setFile_51 (lv_at hl 0 rfl) ?_
        refine lv_iload_n hx hb dX5_setFile_53 rfl (lv_at hl 3 rfl) ?_
        refine lv_iload_n hx hb dX5_setFile_54 rfl (lv_at hl 4 rfl) ?_
        refine lv_iload hx hb dX5_setFile_55 (lv_at hl 5 rfl) ?_
        refine xg_callv (va_runV (As := [.int (p1), .int (p2), .int (p3)]) (rest := []) ⟨hx, hb, hml, hown, hts⟩ (c_X2_limit l hl9 hA r1 hk3 p1 p2 p3 hw) (cwV 3 hts gX5_setFile_X2_limit rfl rfl rfl (by decide +kernel) ⟨Nat.le_of_ble_eq_true rfl, Nat.le_of_ble_eq_true rfl⟩) (xg_preV hB0 hP hK hN hS (xsF hk3) rfl) rfl rfl hl.1 rfl (lv_room (Nat.le_of_ble_eq_true rfl)) dX5_setFile_57 ⟨Nat.le_of_ble_eq_true rfl, Nat.le_of_ble_eq_true rfl⟩) hS (fun _ h14 H locs hw hP hS => ?_)
        refine lv_aload hx hb dX5_setFile_60 (lv_at hl 0 rfl) ?_
        refine xg_get (C := RX2) (TC := TX2) (N := 10) hx hb hts iX2 hown hK hP (xsF hk3) rfl 7 (by decide) f_109 (fun _ h9 => h9) rfl dX5_setFile_62 ?_
        exact xg_irets hx hb hr rfl hlocks hB0 hP hK hN hS dX5_setFile_65 (by decide) (by decide) hw
      · have hw := hw.1 c12
        exact hw.elim
set_option maxHeartbeats 4000000 in
set_option maxRecDepth 100000 in
theorem c_X5_senderAt (l : Launch) (hl9 : l.stackTraces = false) {B0 : Nat} {ad : Nat → Nat} {D : va_G} {T : Nat → ClassId} (hA : XA B0 ad) (p0 : Int32) {h : xH} {K : Nat → xH → Prop} (hw : w_X5_senderAt p0 h K) : XM l yX5_senderAt wsX5_senderAt ({ frames := 0, cells := 0, slots := 0, locals := 0 } : Room) B0 ad D T h [.ref (ad (0)), .int (p0)] (xer ad) K 0 0 := by
  unfold XM
  refine Met.ofW (cc := cX5_senderAt) (maxL := 2) (ret := (some (.object "LogSpooler$Sender"))) (by decide) rfl ?_
  intro p e s m args below meth c s₁ B hml hv
  obtain ⟨rfl, hB0, hP, hK, hN⟩ := hv
  have hx := B.exec
  have hb := B.bytes
  have hr := B.returns
  have hts := atoms_spec (ws := wsX5_senderAt) B.pre
  have hown : s.vm.findClass RX5 = some m.cls := findClass_of_methodNamed B.named
  have hlocks := B.notSynchronized
  have iX5 : ∀ w ∈ u_ws RX5 TX5 9, w ∈ wsX5_senderAt := by decide +kernel
  have f_11 := hts (.fieldLink RX5 11 "LogSpooler" "senders" "[LLogSpooler$Sender;") (by decide +kernel)
  have hS : va_S (fun q => B0 ≤ q) s.heap s.heap [] := va_S.rf
  have hl := lv_entry ([.ref (ad (0)), .int (p0)]) (n := 2) (Nat.le_of_ble_eq_true rfl)
  rw [lg_entry_eq]
  generalize (lg_sl ([.ref (ad (0)), .int (p0)]) ++ List.replicate (2 - (lg_sl ([.ref (ad (0)), .int (p0)])).length) Slot.unset).toArray = ls at hl ⊢
  have hl : lv_has ls 2 [(0, .ref (ad (0))), (1, .int (p0))] := hl
  unfold w_X5_senderAt at hw
  refine lv_iload_n hx hb dX5_senderAt_0 rfl (lv_at hl 1 rfl) ?_
  refine lv_if_lt (tgt := 10) hx hb dX5_senderAt_1 (by decide) (fun c1 => ?_) (fun c1 => ?_)
  · have hw := hw.1 c1
    exact hw.elim
  · have hw := hw.2 c1
    refine lv_iload_n hx hb dX5_senderAt_4 rfl (lv_at hl 1 rfl) ?_
    refine lv_bipush (v := 6) hx hb dX5_senderAt_5 (by decide) ?_
    refine lv_icmp_lt (tgt := 20) hx hb dX5_senderAt_7 (by decide) (fun c2 => ?_) (fun c2 => ?_)
    · have hw := hw.1 c2
      refine lv_aload_n hx hb dX5_senderAt_20 rfl (lv_at hl 0 rfl) ?_
      refine xg_getr (C := RX5) (TC := TX5) (N := 9) hx hb hts iX5 hown hK hP xs0 rfl 0 (by decide) f_11 (fun _ h9 => h9) rfl dX5_senderAt_21 ?_
      refine lv_iload_n hx hb dX5_senderAt_24 rfl (lv_at hl 1 rfl) ?_
      obtain ⟨hi3, hw⟩ := hw
      refine xg_aald (t := 1) (C := RX4) hx hb hK hP xs1 rfl hi3 dX5_senderAt_25 (fun hb4 => ?_)
      have hk5 : 10 ≤ (10 + p0.toNatClampNeg) ∧ (10 + p0.toNatClampNeg) < 16 := by omega
      exact xg_arets (r := (10 + p0.toNatClampNeg)) hx hb hr (Or.inl ⟨_, rfl⟩) (Or.inr ⟨_, rfl⟩) rfl hlocks hB0 hP hK hN hS dX5_senderAt_26 (by decide) (by decide) hw
    · have hw := hw.2 c2
      exact hw.elim
set_option maxHeartbeats 4000000 in
set_option maxRecDepth 100000 in
theorem c_X5_route (l : Launch) (hl9 : l.stackTraces = false) {B0 : Nat} {ad : Nat → Nat} {D : va_G} {T : Nat → ClassId} (hA : XA B0 ad) (p0 : Int32) (p1 : Int32) (p2 : Int32) (p3 : Int32) (p4 : Int32) {h : xH} {K : Int32 → xH → Prop} (hw : w_X5_route p0 p1 p2 p3 p4 h K) : XM l yX5_route wsX5_route ({ frames := 2, cells := 0, slots := 0, locals := 44 } : Room) B0 ad D T h [.ref (ad (0)), .int (p0), .int (p1), .int (p2), .int (p3), .int (p4)] xei K 0 0 := by
  unfold XM
  refine Met.ofW (cc := cX5_route) (maxL := 10) (ret := (some .int)) (by decide) rfl ?_
  intro p e s m args below meth c s₁ B hml hv
  obtain ⟨rfl, hB0, hP, hK, hN⟩ := hv
  have hx := B.exec
  have hb := B.bytes
  have hr := B.returns
  have hts := atoms_spec (ws := wsX5_route) B.pre
  have hown : s.vm.findClass RX5 = some m.cls := findClass_of_methodNamed B.named
  have hlocks := B.notSynchronized
  have iX3 : ∀ w ∈ u_ws RX3 TX3 5, w ∈ wsX5_route := by decide +kernel
  have iX5 : ∀ w ∈ u_ws RX5 TX5 9, w ∈ wsX5_route := by decide +kernel
  have f_17 := hts (.fieldLink RX5 17 "LogSpooler" "rules" "[LLogSpooler$Rule;") (by decide +kernel)
  have f_23 := hts (.fieldLink RX5 23 "LogSpooler" "files" "[LLogSpooler$LogFile;") (by decide +kernel)
  have f_30 := hts (.fieldLink RX5 30 "LogSpooler" "forwarder" "LLogSpooler$Forwarder;") (by decide +kernel)
  have f_41 := hts (.fieldLink RX5 41 "LogSpooler" "now" "I") (by decide +kernel)
  have f_261 := hts (.fieldLink RX5 261 "LogSpooler$Rule" "target" "I") (by decide +kernel)
  have hS : va_S (fun q => B0 ≤ q) s.heap s.heap [] := va_S.rf
  have hl := lv_entry ([.ref (ad (0)), .int (p0), .int (p1), .int (p2), .int (p3), .int (p4)]) (n := 10) (Nat.le_of_ble_eq_true rfl)
  rw [lg_entry_eq]
  generalize (lg_sl ([.ref (ad (0)), .int (p0), .int (p1), .int (p2), .int (p3), .int (p4)]) ++ List.replicate (10 - (lg_sl ([.ref (ad (0)), .int (p0), .int (p1), .int (p2), .int (p3), .int (p4)])).length) Slot.unset).toArray = ls at hl ⊢
  have hl : lv_has ls 10 [(0, .ref (ad (0))), (1, .int (p0)), (2, .int (p1)), (3, .int (p2)), (4, .int (p3)), (5, .int (p4))] := hl
  have j_116 : ∀ (R6 : Int32 → Int32 → xH → Prop) (hR6 : ∀ (v6 : Int32) (v7 : Int32) (h : xH) (H : Heap) (locs : List Loc) (ls : Array Slot), R6 v6 v7 h → XP ad D T h H → va_S (fun q => B0 ≤ q) s.heap H locs → lv_has ls 10 [(0, .ref (ad (0))), (1, .int (p0)), (2, .int (p1)), (3, .int (p2)), (4, .int (p3)), (5, .int (p4)), (6, .int (v6)), (7, .int (v7))] → W p l e (headSpec wsX5_route ({ frames := 2, cells := 0, slots := 0, locals := 44 } : Room)).room s m ([.ref (ad (0)), .int (p0), .int (p1), .int (p2), .int (p3), .int (p4)] : List Value).toArray below meth c H locs 0 0 (MQ below (XQ B0 ad D T xei K) ([.ref (ad (0)), .int (p0), .int (p1), .int (p2), .int (p3), .int (p4)] : List Value).toArray s 0 0 (fun q => B0 ≤ q)) (F0 m 6 ls [])) (v6 : Int32) (v7 : Int32) (h : xH) (H : Heap) (locs : List Loc) (ls : Array Slot), w_X5_route_116 p0 p1 p2 p3 p4 K R6 v6 v7 h → XP ad D T h H → va_S (fun q => B0 ≤ q) s.heap H locs → lv_has ls 10 [(0, .ref (ad (0))), (1, .int (p0)), (2, .int (p1)), (3, .int (p2)), (4, .int (p3)), (5, .int (p4)), (6, .int (v6)), (7, .int (v7))] → W p l e (headSpec wsX5_route ({ frames := 2, cells := 0, slots := 0, locals := 44 } : Room)).room s m ([.ref (ad (0)), .int (p0), .int (p1), .int (p2), .int (p3), .int (p4)] : List Value).toArray below meth c H locs 0 0 (MQ below (XQ B0 ad D T xei K) ([.ref (ad (0)), .int (p0), .int (p1), .int (p2), .int (p3), .int (p4)] : List Value).toArray s 0 0 (fun q => B0 ≤ q)) (F0 m 116 ls []) := by
    intro R6 hR6 v6 v7 h H locs ls hw hP hS hl 
    unfold w_X5_route_116 at hw
    obtain ⟨x22, ex22⟩ : ∃ z : Int32, z = v7 + 1 := ⟨_, rfl⟩
    have hw := hw x22 ex22
    refine lv_iinc (v := x22) (lv' := [(7, .int (x22)), (0, .ref (ad (0))), (1, .int (p0)), (2, .int (p1)), (3, .int (p2)), (4, .int (p3)), (5, .int (p4)), (6, .int (v6))]) hx hb dX5_route_116 hl (k := 7) rfl (by rw [ex22]; rfl) (by decide) rfl (fun ls hl => ?_)
    refine lv_goto (tgt := 6) hx hb dX5_route_119 (by decide) ?_
    exact hR6 (v6) (x22) _ _ _ _ hw hP hS (lv_sub hl [1, 2, 3, 4, 5, 6, 7, 0] rfl)
  have j_108 : ∀ (R6 : Int32 → Int32 → xH → Prop) (hR6 : ∀ (v6 : Int32) (v7 : Int32) (h : xH) (H : Heap) (locs : List Loc) (ls : Array Slot), R6 v6 v7 h → XP ad D T h H → va_S (fun q => B0 ≤ q) s.heap H locs → lv_has ls 10 [(0, .ref (ad (0))), (1, .int (p0)), (2, .int (p1)), (3, .int (p2)), (4, .int (p3)), (5, .int (p4)), (6, .int (v6)), (7, .int (v7))] → W p l e (headSpec wsX5_route ({ frames := 2, cells := 0, slots := 0, locals := 44 } : Room)).room s m ([.ref (ad (0)), .int (p0), .int (p1), .int (p2), .int (p3), .int (p4)] : List Value).toArray below meth c H locs 0 0 (MQ below (XQ B0 ad D T xei K) ([.ref (ad (0)), .int (p0), .int (p1), .int (p2), .int (p3), .int (p4)] : List Value).toArray s 0 0 (fun q => B0 ≤ q)) (F0 m 6 ls [])) (v6 : Int32) (v7 : Int32) (h : xH) (H : Heap) (locs : List Loc) (ls : Array Slot), w_X5_route_108 p0 p1 p2 p3 p4 K R6 v6 v7 h → XP ad D T h H → va_S (fun q => B0 ≤ q) s.heap H locs → lv_has ls 10 [(0, .ref (ad (0))), (1, .int (p0)), (2, .int (p1)), (3, .int (p2)), (4, .int (p3)), (5, .int (p4)), (6, .int (v6)), (7, .int (v7))] → W p l e (headSpec wsX5_route ({ frames := 2, cells := 0, slots := 0, locals := 44 } : Room)).room s m ([.ref (ad (0)), .int (p0), .int (p1), .int (p2), .int (p3), .int (p4)] : List Value).toArray below meth c H locs 0 0 (MQ below (XQ B0 ad D T xei K) ([.ref (ad (0)), .int (p0), .int (p1), .int (p2), .int (p3), .int (p4)] : List Value).toArray s 0 0 (fun q => B0 ≤ q)) (F0 m 108 ls []) := by
    intro R6 hR6 v6 v7 h H locs ls hw hP hS hl 
    unfold w_X5_route_108 at hw
    refine lv_aload_n hx hb dX5_route_108 rfl (lv_at hl 0 rfl) ?_
    refine xg_getr (C := RX5) (TC := TX5) (N := 9) hx hb hts iX5 hown hK hP xs0 rfl 3 (by decide) f_30 (fun _ h9 => h9) rfl dX5_route_109 ?_
    refine lv_iload_n hx hb dX5_route_112 rfl (lv_at hl 1 rfl) ?_
    refine xg_callv (va_runV (As := [.int (p0)]) (rest := []) ⟨hx, hb, hml, hown, hts⟩ (c_X0_take l hl9 hA p0 hw) (cwV 1 hts gX5_route_X0_take rfl rfl rfl (by decide +kernel) ⟨Nat.le_of_ble_eq_true rfl, Nat.le_of_ble_eq_true rfl⟩) (xg_preV hB0 hP hK hN hS xs4 rfl) rfl rfl hl.1 rfl (lv_room (Nat.le_of_ble_eq_true rfl)) dX5_route_113 ⟨Nat.le_of_ble_eq_true rfl, Nat.le_of_ble_eq_true rfl⟩) hS (fun _ h24 H locs hw hP hS => ?_)
    exact j_116 _ (hR6) (v6) (v7) _ _ _ _ hw hP hS (lv_sub hl [0, 1, 2, 3, 4, 5, 6, 7] rfl)
  have j_41 : ∀ (R6 : Int32 → Int32 → xH → Prop) (hR6 : ∀ (v6 : Int32) (v7 : Int32) (h : xH) (H : Heap) (locs : List Loc) (ls : Array Slot), R6 v6 v7 h → XP ad D T h H → va_S (fun q => B0 ≤ q) s.heap H locs → lv_has ls 10 [(0, .ref (ad (0))), (1, .int (p0)), (2, .int (p1)), (3, .int (p2)), (4, .int (p3)), (5, .int (p4)), (6, .int (v6)), (7, .int (v7))] → W p l e (headSpec wsX5_route ({ frames := 2, cells := 0, slots := 0, locals := 44 } : Room)).room s m ([.ref (ad (0)), .int (p0), .int (p1), .int (p2), .int (p3), .int (p4)] : List Value).toArray below meth c H locs 0 0 (MQ below (XQ B0 ad D T xei K) ([.ref (ad (0)), .int (p0), .int (p1), .int (p2), .int (p3), .int (p4)] : List Value).toArray s 0 0 (fun q => B0 ≤ q)) (F0 m 6 ls [])) (v6 : Int32) (v7 : Int32) (v8 : Int32) (s0 : Int32) (h : xH) (H : Heap) (locs : List Loc) (ls : Array Slot), w_X5_route_41 p0 p1 p2 p3 p4 K R6 v6 v7 v8 s0 h → XP ad D T h H → va_S (fun q => B0 ≤ q) s.heap H locs → lv_has ls 10 [(0, .ref (ad (0))), (1, .int (p0)), (2, .int (p1)), (3, .int (p2)), (4, .int (p3)), (5, .int (p4)), (6, .int (v6)), (7, .int (v7)), (8, .int (v8))] → W p l e (headSpec wsX5_route ({ frames := 2, cells := 0, slots := 0, locals := 44 } : Room)).room s m ([.ref (ad (0)), .int (p0), .int (p1), .int (p2), .int (p3), .int (p4)] : List Value).toArray below meth c H locs 0 0 (MQ below (XQ B0 ad D T xei K) ([.ref (ad (0)), .int (p0), .int (p1), .int (p2), .int (p3), .int (p4)] : List Value).toArray s 0 0 (fun q => B0 ≤ q)) (F0 m 41 ls [.int (s0)]) := by
    intro R6 hR6 v6 v7 v8 s0 h H locs ls hw hP hS hl 
    unfold w_X5_route_41 at hw
    refine lv_istore (lv' := [(9, .int (s0)), (0, .ref (ad (0))), (1, .int (p0)), (2, .int (p1)), (3, .int (p2)), (4, .int (p3)), (5, .int (p4)), (6, .int (v6)), (7, .int (v7)), (8, .int (v8))]) hx hb dX5_route_41 hl (by decide) rfl (fun ls hl => ?_)
    refine lv_iload hx hb dX5_route_43 (lv_at hl 0 rfl) ?_
    refine lv_if_ne (tgt := 116) hx hb dX5_route_45 (by decide) (fun c7 => ?_) (fun c7 => ?_)
    · have hw := hw.2 c7
      exact j_116 _ (hR6) (v6) (v7) _ _ _ _ hw hP hS (lv_sub hl [1, 2, 3, 4, 5, 6, 7, 8] rfl)
    · have hw := hw.1 c7
      refine lv_aload_n hx hb dX5_route_48 rfl (lv_at hl 1 rfl) ?_
      refine xg_getr (C := RX5) (TC := TX5) (N := 9) hx hb hts iX5 hown hK hP xs0 rfl 1 (by decide) f_17 (fun _ h9 => h9) rfl dX5_route_49 ?_
      refine lv_iload hx hb dX5_route_52 (lv_at hl 8 rfl) ?_
      obtain ⟨hi8, hw⟩ := hw
      refine xg_aald (t := 2) (C := RX3) hx hb hK hP xs2 rfl hi8 dX5_route_54 (fun hb9 => ?_)
      have hk10 : 20 ≤ (20 + v7.toNatClampNeg) ∧ (20 + v7.toNatClampNeg) < 26 := by omega
      refine lv_iload_n hx hb dX5_route_55 rfl (lv_at hl 3 rfl) ?_
      refine lv_iload_n hx hb dX5_route_56 rfl (lv_at hl 4 rfl) ?_
      refine lv_iload hx hb dX5_route_57 (lv_at hl 5 rfl) ?_
      refine xg_calli (va_runV (As := [.int (p1), .int (p2), .int (p3)]) (rest := []) ⟨hx, hb, hml, hown, hts⟩ (c_X3_fits l hl9 hA (20 + v7.toNatClampNeg) hk10 p1 p2 p3 hw) (cwV 3 hts gX5_route_X3_fits rfl rfl rfl (by decide +kernel) ⟨Nat.le_of_ble_eq_true rfl, Nat.le_of_ble_eq_true rfl⟩) (xg_preV hB0 hP hK hN hS (xsR hk10) rfl) rfl rfl hl.1 rfl (lv_room (Nat.le_of_ble_eq_true rfl)) dX5_route_59 ⟨Nat.le_of_ble_eq_true rfl, Nat.le_of_ble_eq_true rfl⟩) hS (fun r11 h12 H locs hw hP hS => ?_)
      refine lv_if_ne (tgt := 68) hx hb dX5_route_62 (by decide) (fun c13 => ?_) (fun c13 => ?_)
      · have hw := hw.2 c13
        refine lv_iload hx hb dX5_route_68 (lv_at hl 7 rfl) ?_
        refine lv_iconst (v := 1) hx hb dX5_route_70 (by decide) ?_
        refine lv_iload hx hb dX5_route_71 (lv_at hl 9 rfl) ?_
        refine lv_ishl hx hb dX5_route_73 ?_
        refine lv_ior hx hb dX5_route_74 ?_
        refine lv_topi (fun x14 ex14 => ?_)
        have hw := hw x14 ex14
        refine lv_istore (lv' := [(6, .int (x14)), (9, .int (s0)), (0, .ref (ad (0))), (1, .int (p0)), (2, .int (p1)), (3, .int (p2)), (4, .int (p3)), (5, .int (p4)), (7, .int (v7)), (8, .int (v8))]) hx hb dX5_route_75 hl (by decide) rfl (fun ls hl => ?_)
        refine lv_iload hx hb dX5_route_77 (lv_at hl 9 rfl) ?_
        refine lv_if_lt (tgt := 108) hx hb dX5_route_79 (by decide) (fun c15 => ?_) (fun c15 => ?_)
        · have hw := hw.1 c15
          exact j_108 _ (hR6) (x14) (v7) _ _ _ _ hw hP hS (lv_sub hl [2, 3, 4, 5, 6, 7, 0, 8] rfl)
        · have hw := hw.2 c15
          refine lv_iload hx hb dX5_route_82 (lv_at hl 9 rfl) ?_
          refine lv_iconst (v := 4) hx hb dX5_route_84 (by decide) ?_
          refine lv_icmp_ge (tgt := 108) hx hb dX5_route_85 (by decide) (fun c16 => ?_) (fun c16 => ?_)
          · have hw := hw.1 c16
            exact j_108 _ (hR6) (x14) (v7) _ _ _ _ hw hP hS (lv_sub hl [2, 3, 4, 5, 6, 7, 0, 8] rfl)
          · have hw := hw.2 c16
            refine lv_aload_n hx hb dX5_route_88 rfl (lv_at hl 2 rfl) ?_
            refine xg_getr (C := RX5) (TC := TX5) (N := 9) hx hb hts iX5 hown hK hP xs0 rfl 2 (by decide) f_23 (fun _ h9 => h9) rfl dX5_route_89 ?_
            refine lv_iload hx hb dX5_route_92 (lv_at hl 9 rfl) ?_
            obtain ⟨hi17, hw⟩ := hw
            refine xg_aald (t := 3) (C := RX2) hx hb hK hP xs3 rfl hi17 dX5_route_94 (fun hb18 => ?_)
            have hk19 : 30 ≤ (30 + v8.toNatClampNeg) ∧ (30 + v8.toNatClampNeg) < 34 := by omega
            refine lv_iload_n hx hb dX5_route_95 rfl (lv_at hl 3 rfl) ?_
            refine lv_iload hx hb dX5_route_96 (lv_at hl 7 rfl) ?_
            refine lv_aload_n hx hb dX5_route_98 rfl (lv_at hl 2 rfl) ?_
            refine xg_get (C := RX5) (TC := TX5) (N := 9) hx hb hts iX5 hown hK hP xs0 rfl 5 (by decide) f_41 (fun _ h9 => h9) rfl dX5_route_99 ?_
            refine xg_callv (va_runV (As := [.int (p0), .int (p4), .int ((h12 0 5))]) (rest := []) ⟨hx, hb, hml, hown, hts⟩ (c_X2_add l hl9 hA (30 + v8.toNatClampNeg) hk19 p0 p4 (h12 0 5) hw) (cwV 3 hts gX5_route_X2_add rfl rfl rfl (by decide +kernel) ⟨Nat.le_of_ble_eq_true rfl, Nat.le_of_ble_eq_true rfl⟩) (xg_preV hB0 hP hK hN hS (xsF hk19) rfl) rfl rfl hl.1 rfl (lv_room (Nat.le_of_ble_eq_true rfl)) dX5_route_102 ⟨Nat.le_of_ble_eq_true rfl, Nat.le_of_ble_eq_true rfl⟩) hS (fun _ h21 H locs hw hP hS => ?_)
            refine lv_goto (tgt := 116) hx hb dX5_route_105 (by decide) ?_
            exact j_116 _ (hR6) (x14) (v7) _ _ _ _ hw hP hS (lv_sub hl [2, 3, 4, 5, 6, 7, 0, 8] rfl)
      · have hw := hw.1 c13
        refine lv_goto (tgt := 116) hx hb dX5_route_65 (by decide) ?_
        exact j_116 _ (hR6) (v6) (v7) _ _ _ _ hw hP hS (lv_sub hl [1, 2, 3, 4, 5, 6, 7, 8] rfl)
  have j_6 : ∀ (n : Nat) (v6 : Int32) (v7 : Int32) (h : xH) (H : Heap) (locs : List Loc) (ls : Array Slot), w_X5_route_6 p0 p1 p2 p3 p4 K n v6 v7 h → XP ad D T h H → va_S (fun q => B0 ≤ q) s.heap H locs → lv_has ls 10 [(0, .ref (ad (0))), (1, .int (p0)), (2, .int (p1)), (3, .int (p2)), (4, .int (p3)), (5, .int (p4)), (6, .int (v6)), (7, .int (v7))] → W p l e (headSpec wsX5_route ({ frames := 2, cells := 0, slots := 0, locals := 44 } : Room)).room s m ([.ref (ad (0)), .int (p0), .int (p1), .int (p2), .int (p3), .int (p4)] : List Value).toArray below meth c H locs 0 0 (MQ below (XQ B0 ad D T xei K) ([.ref (ad (0)), .int (p0), .int (p1), .int (p2), .int (p3), .int (p4)] : List Value).toArray s 0 0 (fun q => B0 ≤ q)) (F0 m 6 ls []) := by
    intro n
    induction n with
    | zero => intro v6 v7 h H locs ls hw; exact hw.elim
    | succ n9 ih =>
      intro v6 v7 h H locs ls hw hP hS hl 
      rw [w_X5_route_6_s] at hw
      refine lv_iload hx hb dX5_route_6 (lv_at hl 7 rfl) ?_
      refine lv_bipush (v := 6) hx hb dX5_route_8 (by decide) ?_
      refine lv_icmp_ge (tgt := 122) hx hb dX5_route_10 (by decide) (fun c1 => ?_) (fun c1 => ?_)
      · have hw := hw.1 c1
        refine lv_iload hx hb dX5_route_122 (lv_at hl 6 rfl) ?_
        exact xg_irets hx hb hr rfl hlocks hB0 hP hK hN hS dX5_route_124 (by decide) (by decide) hw
      · have hw := hw.2 c1
        refine lv_aload_n hx hb dX5_route_13 rfl (lv_at hl 0 rfl) ?_
        refine xg_getr (C := RX5) (TC := TX5) (N := 9) hx hb hts iX5 hown hK hP xs0 rfl 1 (by decide) f_17 (fun _ h9 => h9) rfl dX5_route_14 ?_
        refine lv_iload hx hb dX5_route_17 (lv_at hl 7 rfl) ?_
        obtain ⟨hi2, hw⟩ := hw
        refine xg_aald (t := 2) (C := RX3) hx hb hK hP xs2 rfl hi2 dX5_route_19 (fun hb3 => ?_)
        have hk4 : 20 ≤ (20 + v7.toNatClampNeg) ∧ (20 + v7.toNatClampNeg) < 26 := by omega
        refine xg_get (C := RX3) (TC := TX3) (N := 5) hx hb hts iX3 hown hK hP (xsR hk4) rfl 4 (by decide) f_261 (fun _ h9 => h9) rfl dX5_route_20 ?_
        refine lv_topi (fun x5 ex5 => ?_)
        have hw := hw x5 ex5
        refine lv_istore (lv' := [(8, .int (x5)), (0, .ref (ad (0))), (1, .int (p0)), (2, .int (p1)), (3, .int (p2)), (4, .int (p3)), (5, .int (p4)), (6, .int (v6)), (7, .int (v7))]) hx hb dX5_route_23 hl (by decide) rfl (fun ls hl => ?_)
        refine lv_iload hx hb dX5_route_25 (lv_at hl 7 rfl) ?_
        refine lv_iload hx hb dX5_route_27 (lv_at hl 0 rfl) ?_
        refine lv_ishr hx hb dX5_route_29 ?_
        refine lv_iconst (v := 1) hx hb dX5_route_30 (by decide) ?_
        refine lv_iand hx hb dX5_route_31 ?_
        refine lv_iconst (v := 1) hx hb dX5_route_32 (by decide) ?_
        refine lv_icmp_ne (tgt := 40) hx hb dX5_route_33 (by decide) (fun c6 => ?_) (fun c6 => ?_)
        · have hw := hw.2 c6
          refine lv_iconst (v := 0) hx hb dX5_route_40 (by decide) ?_
          exact j_41 _ (ih) (v6) (v7) (x5) (0) _ _ _ _ hw hP hS (lv_sub hl [1, 2, 3, 4, 5, 6, 7, 8, 0] rfl)
        · have hw := hw.1 c6
          refine lv_iconst (v := 1) hx hb dX5_route_36 (by decide) ?_
          refine lv_goto (tgt := 41) hx hb dX5_route_37 (by decide) ?_
          exact j_41 _ (ih) (v6) (v7) (x5) (1) _ _ _ _ hw hP hS (lv_sub hl [1, 2, 3, 4, 5, 6, 7, 8, 0] rfl)
  unfold w_X5_route at hw
  refine lv_iconst (v := 0) hx hb dX5_route_0 (by decide) ?_
  refine lv_istore (lv' := [(6, .int (0)), (0, .ref (ad (0))), (1, .int (p0)), (2, .int (p1)), (3, .int (p2)), (4, .int (p3)), (5, .int (p4))]) hx hb dX5_route_1 hl (by decide) rfl (fun ls hl => ?_)
  refine lv_iconst (v := 0) hx hb dX5_route_3 (by decide) ?_
  refine lv_istore (lv' := [(7, .int (0)), (6, .int (0)), (0, .ref (ad (0))), (1, .int (p0)), (2, .int (p1)), (3, .int (p2)), (4, .int (p3)), (5, .int (p4))]) hx hb dX5_route_4 hl (by decide) rfl (fun ls hl => ?_)
  obtain ⟨n9, hw⟩ := hw
  exact j_6  n9 (0) (0) _ _ _ _ hw hP hS (lv_sub hl [2, 3, 4, 5, 6, 7, 1, 0] rfl)
set_option maxHeartbeats 4000000 in
set_option maxRecDepth 100000 in
theorem c_X5_tellRepeats (l : Launch) (hl9 : l.stackTraces = false) {B0 : Nat} {ad : Nat → Nat} {D : va_G} {T : Nat → ClassId} (hA : XA B0 ad) (k : Nat) (hk : 10 ≤ k ∧ k < 16) {h : xH} {K : Unit → xH → Prop} (hw : w_X5_tellRepeats k h K) : XM l yX5_tellRepeats wsX5_tellRepeats ({ frames := 3, cells := 0, slots := 0, locals := 73 } : Room) B0 ad D T h [.ref (ad (0)), .ref (ad (k))] xev K 0 0 := by
  unfold XM
  refine Met.ofW (cc := cX5_tellRepeats) (maxL := 3) (ret := none) (by decide) rfl ?_
  intro p e s m args below meth c s₁ B hml hv
  obtain ⟨rfl, hB0, hP, hK, hN⟩ := hv
  have hx := B.exec
  have hb := B.bytes
  have hr := B.returns
  have hts := atoms_spec (ws := wsX5_tellRepeats) B.pre
  have hown : s.vm.findClass RX5 = some m.cls := findClass_of_methodNamed B.named
  have hlocks := B.notSynchronized
  have iX4 : ∀ w ∈ u_ws RX4 TX4 9, w ∈ wsX5_tellRepeats := by decide +kernel
  have f_207 := hts (.fieldLink RX5 207 "LogSpooler$Sender" "untoldRepeats" "I") (by decide +kernel)
  have f_251 := hts (.fieldLink RX5 251 "LogSpooler$Sender" "number" "I") (by decide +kernel)
  have f_254 := hts (.fieldLink RX5 254 "LogSpooler$Sender" "lastFacility" "I") (by decide +kernel)
  have f_257 := hts (.fieldLink RX5 257 "LogSpooler$Sender" "lastSeverity" "I") (by decide +kernel)
  have hS : va_S (fun q => B0 ≤ q) s.heap s.heap [] := va_S.rf
  have hl := lv_entry ([.ref (ad (0)), .ref (ad (k))]) (n := 3) (Nat.le_of_ble_eq_true rfl)
  rw [lg_entry_eq]
  generalize (lg_sl ([.ref (ad (0)), .ref (ad (k))]) ++ List.replicate (3 - (lg_sl ([.ref (ad (0)), .ref (ad (k))])).length) Slot.unset).toArray = ls at hl ⊢
  have hl : lv_has ls 3 [(0, .ref (ad (0))), (1, .ref (ad (k)))] := hl
  unfold w_X5_tellRepeats at hw
  refine lv_aload_n hx hb dX5_tellRepeats_0 rfl (lv_at hl 1 rfl) ?_
  refine xg_get (C := RX4) (TC := TX4) (N := 9) hx hb hts iX4 hown hK hP (xsS hk) rfl 2 (by decide) f_207 (fun _ h9 => h9) rfl dX5_tellRepeats_1 ?_
  refine lv_if_le (tgt := 48) hx hb dX5_tellRepeats_4 (by decide) (fun c1 => ?_) (fun c1 => ?_)
  · have hw := hw.1 c1
    exact xg_vrets hx hb hr hlocks hB0 hP hK hN hS dX5_tellRepeats_48 (by decide) (by decide) hw
  · have hw := hw.2 c1
    refine lv_sipush (v := 10000) hx hb dX5_tellRepeats_7 (by decide) ?_
    refine lv_aload_n hx hb dX5_tellRepeats_10 rfl (lv_at hl 1 rfl) ?_
    refine xg_get (C := RX4) (TC := TX4) (N := 9) hx hb hts iX4 hown hK hP (xsS hk) rfl 0 (by decide) f_251 (fun _ h9 => h9) rfl dX5_tellRepeats_11 ?_
    refine lv_iconst (v := 1) hx hb dX5_tellRepeats_14 (by decide) ?_
    refine lv_iadd hx hb dX5_tellRepeats_15 ?_
    refine lv_imul hx hb dX5_tellRepeats_16 ?_
    refine lv_aload_n hx hb dX5_tellRepeats_17 rfl (lv_at hl 1 rfl) ?_
    refine xg_get (C := RX4) (TC := TX4) (N := 9) hx hb hts iX4 hown hK hP (xsS hk) rfl 2 (by decide) f_207 (fun _ h9 => h9) rfl dX5_tellRepeats_18 ?_
    refine lv_iadd hx hb dX5_tellRepeats_21 ?_
    refine lv_topi (fun x2 ex2 => ?_)
    have hw := hw x2 ex2
    refine lv_istore_n (lv' := [(2, .int (x2)), (0, .ref (ad (0))), (1, .ref (ad (k)))]) hx hb dX5_tellRepeats_22 rfl hl (by decide) rfl (fun ls hl => ?_)
    refine lv_aload_n hx hb dX5_tellRepeats_23 rfl (lv_at hl 1 rfl) ?_
    refine lv_iload_n hx hb dX5_tellRepeats_24 rfl (lv_at hl 0 rfl) ?_
    refine lv_aload_n hx hb dX5_tellRepeats_25 rfl (lv_at hl 2 rfl) ?_
    refine xg_get (C := RX4) (TC := TX4) (N := 9) hx hb hts iX4 hown hK hP (xsS hk) rfl 0 (by decide) f_251 (fun _ h9 => h9) rfl dX5_tellRepeats_26 ?_
    refine lv_aload_n hx hb dX5_tellRepeats_29 rfl (lv_at hl 2 rfl) ?_
    refine xg_get (C := RX4) (TC := TX4) (N := 9) hx hb hts iX4 hown hK hP (xsS hk) rfl 5 (by decide) f_254 (fun _ h9 => h9) rfl dX5_tellRepeats_30 ?_
    refine lv_aload_n hx hb dX5_tellRepeats_33 rfl (lv_at hl 2 rfl) ?_
    refine xg_get (C := RX4) (TC := TX4) (N := 9) hx hb hts iX4 hown hK hP (xsS hk) rfl 6 (by decide) f_257 (fun _ h9 => h9) rfl dX5_tellRepeats_34 ?_
    refine lv_bipush (v := 15) hx hb dX5_tellRepeats_37 (by decide) ?_
    refine xg_calli (va_runV (As := [.int (x2), .int ((h k 0)), .int ((h k 5)), .int ((h k 6)), .int (15)]) (rest := []) ⟨hx, hb, hml, hown, hts⟩ (c_X5_route l hl9 hA x2 (h k 0) (h k 5) (h k 6) (15 : Int32) hw) (cwV 5 hts gX5_tellRepeats_X5_route rfl rfl rfl (by decide +kernel) ⟨Nat.le_of_ble_eq_true rfl, Nat.le_of_ble_eq_true rfl⟩) (xg_preV hB0 hP hK hN hS xs0 rfl) rfl rfl hl.1 rfl (lv_room (Nat.le_of_ble_eq_true rfl)) dX5_tellRepeats_39 ⟨Nat.le_of_ble_eq_true rfl, Nat.le_of_ble_eq_true rfl⟩) hS (fun r3 h4 H locs hw hP hS => ?_)
    refine lv_pop hx hb dX5_tellRepeats_42 rfl ?_
    refine lv_aload_n hx hb dX5_tellRepeats_43 rfl (lv_at hl 2 rfl) ?_
    refine lv_iconst (v := 0) hx hb dX5_tellRepeats_44 (by decide) ?_
    refine xg_put (C := RX4) (TC := TX4) (N := 9) hx hb hts iX4 tyX4 tyX4_ok nmX4 hown hK hP hA hS (xsS hk) rfl 2 (by decide) f_207 (fun _ h9 => h9) rfl rfl (ty := .int) (by decide +kernel) rfl rfl dX5_tellRepeats_45 (fun H locs h5 eh5 hP hS => ?_)
    have hw := hw h5 eh5
    exact xg_vrets hx hb hr hlocks hB0 hP hK hN hS dX5_tellRepeats_48 (by decide) (by decide) hw
set_option maxHeartbeats 4000000 in
set_option maxRecDepth 100000 in
theorem c_X5_tellDrops (l : Launch) (hl9 : l.stackTraces = false) {B0 : Nat} {ad : Nat → Nat} {D : va_G} {T : Nat → ClassId} (hA : XA B0 ad) (k : Nat) (hk : 10 ≤ k ∧ k < 16) {h : xH} {K : Unit → xH → Prop} (hw : w_X5_tellDrops k h K) : XM l yX5_tellDrops wsX5_tellDrops ({ frames := 3, cells := 0, slots := 0, locals := 73 } : Room) B0 ad D T h [.ref (ad (0)), .ref (ad (k))] xev K 0 0 := by
  unfold XM
  refine Met.ofW (cc := cX5_tellDrops) (maxL := 3) (ret := none) (by decide) rfl ?_
  intro p e s m args below meth c s₁ B hml hv
  obtain ⟨rfl, hB0, hP, hK, hN⟩ := hv
  have hx := B.exec
  have hb := B.bytes
  have hr := B.returns
  have hts := atoms_spec (ws := wsX5_tellDrops) B.pre
  have hown : s.vm.findClass RX5 = some m.cls := findClass_of_methodNamed B.named
  have hlocks := B.notSynchronized
  have iX4 : ∀ w ∈ u_ws RX4 TX4 9, w ∈ wsX5_tellDrops := by decide +kernel
  have f_145 := hts (.fieldLink RX5 145 "LogSpooler$Sender" "untoldDrops" "I") (by decide +kernel)
  have f_251 := hts (.fieldLink RX5 251 "LogSpooler$Sender" "number" "I") (by decide +kernel)
  have hS : va_S (fun q => B0 ≤ q) s.heap s.heap [] := va_S.rf
  have hl := lv_entry ([.ref (ad (0)), .ref (ad (k))]) (n := 3) (Nat.le_of_ble_eq_true rfl)
  rw [lg_entry_eq]
  generalize (lg_sl ([.ref (ad (0)), .ref (ad (k))]) ++ List.replicate (3 - (lg_sl ([.ref (ad (0)), .ref (ad (k))])).length) Slot.unset).toArray = ls at hl ⊢
  have hl : lv_has ls 3 [(0, .ref (ad (0))), (1, .ref (ad (k)))] := hl
  unfold w_X5_tellDrops at hw
  refine lv_aload_n hx hb dX5_tellDrops_0 rfl (lv_at hl 1 rfl) ?_
  refine xg_get (C := RX4) (TC := TX4) (N := 9) hx hb hts iX4 hown hK hP (xsS hk) rfl 4 (by decide) f_145 (fun _ h9 => h9) rfl dX5_tellDrops_1 ?_
  refine lv_if_le (tgt := 42) hx hb dX5_tellDrops_4 (by decide) (fun c1 => ?_) (fun c1 => ?_)
  · have hw := hw.1 c1
    exact xg_vrets hx hb hr hlocks hB0 hP hK hN hS dX5_tellDrops_42 (by decide) (by decide) hw
  · have hw := hw.2 c1
    refine lv_ldcw (v := 100000) hx hb hown (hts (.constant RX5 260 100000) (by decide +kernel)) dX5_tellDrops_7 ?_
    refine lv_aload_n hx hb dX5_tellDrops_10 rfl (lv_at hl 1 rfl) ?_
    refine xg_get (C := RX4) (TC := TX4) (N := 9) hx hb hts iX4 hown hK hP (xsS hk) rfl 0 (by decide) f_251 (fun _ h9 => h9) rfl dX5_tellDrops_11 ?_
    refine lv_iconst (v := 1) hx hb dX5_tellDrops_14 (by decide) ?_
    refine lv_iadd hx hb dX5_tellDrops_15 ?_
    refine lv_imul hx hb dX5_tellDrops_16 ?_
    refine lv_aload_n hx hb dX5_tellDrops_17 rfl (lv_at hl 1 rfl) ?_
    refine xg_get (C := RX4) (TC := TX4) (N := 9) hx hb hts iX4 hown hK hP (xsS hk) rfl 4 (by decide) f_145 (fun _ h9 => h9) rfl dX5_tellDrops_18 ?_
    refine lv_iadd hx hb dX5_tellDrops_21 ?_
    refine lv_topi (fun x2 ex2 => ?_)
    have hw := hw x2 ex2
    refine lv_istore_n (lv' := [(2, .int (x2)), (0, .ref (ad (0))), (1, .ref (ad (k)))]) hx hb dX5_tellDrops_22 rfl hl (by decide) rfl (fun ls hl => ?_)
    refine lv_aload_n hx hb dX5_tellDrops_23 rfl (lv_at hl 1 rfl) ?_
    refine lv_iload_n hx hb dX5_tellDrops_24 rfl (lv_at hl 0 rfl) ?_
    refine lv_aload_n hx hb dX5_tellDrops_25 rfl (lv_at hl 2 rfl) ?_
    refine xg_get (C := RX4) (TC := TX4) (N := 9) hx hb hts iX4 hown hK hP (xsS hk) rfl 0 (by decide) f_251 (fun _ h9 => h9) rfl dX5_tellDrops_26 ?_
    refine lv_iconst (v := 5) hx hb dX5_tellDrops_29 (by decide) ?_
    refine lv_iconst (v := 4) hx hb dX5_tellDrops_30 (by decide) ?_
    refine lv_bipush (v := 20) hx hb dX5_tellDrops_31 (by decide) ?_
    refine xg_calli (va_runV (As := [.int (x2), .int ((h k 0)), .int (5), .int (4), .int (20)]) (rest := []) ⟨hx, hb, hml, hown, hts⟩ (c_X5_route l hl9 hA x2 (h k 0) (5 : Int32) (4 : Int32) (20 : Int32) hw) (cwV 5 hts gX5_tellDrops_X5_route rfl rfl rfl (by decide +kernel) ⟨Nat.le_of_ble_eq_true rfl, Nat.le_of_ble_eq_true rfl⟩) (xg_preV hB0 hP hK hN hS xs0 rfl) rfl rfl hl.1 rfl (lv_room (Nat.le_of_ble_eq_true rfl)) dX5_tellDrops_33 ⟨Nat.le_of_ble_eq_true rfl, Nat.le_of_ble_eq_true rfl⟩) hS (fun r3 h4 H locs hw hP hS => ?_)
    refine lv_pop hx hb dX5_tellDrops_36 rfl ?_
    refine lv_aload_n hx hb dX5_tellDrops_37 rfl (lv_at hl 2 rfl) ?_
    refine lv_iconst (v := 0) hx hb dX5_tellDrops_38 (by decide) ?_
    refine xg_put (C := RX4) (TC := TX4) (N := 9) hx hb hts iX4 tyX4 tyX4_ok nmX4 hown hK hP hA hS (xsS hk) rfl 4 (by decide) f_145 (fun _ h9 => h9) rfl rfl (ty := .int) (by decide +kernel) rfl rfl dX5_tellDrops_39 (fun H locs h5 eh5 hP hS => ?_)
    have hw := hw h5 eh5
    exact xg_vrets hx hb hr hlocks hB0 hP hK hN hS dX5_tellDrops_42 (by decide) (by decide) hw
set_option maxHeartbeats 4000000 in
set_option maxRecDepth 100000 in
theorem c_X5_message (l : Launch) (hl9 : l.stackTraces = false) {B0 : Nat} {ad : Nat → Nat} {D : va_G} {T : Nat → ClassId} (hA : XA B0 ad) (p0 : Int32) (p1 : Int32) (p2 : Int32) (p3 : Int32) (p4 : Int32) {h : xH} {K : Int32 → xH → Prop} (hw : w_X5_message p0 p1 p2 p3 p4 h K) : XM l yX5_message wsX5_message ({ frames := 4, cells := 0, slots := 0, locals := 95 } : Room) B0 ad D T h [.ref (ad (0)), .int (p0), .int (p1), .int (p2), .int (p3), .int (p4)] xei K 0 0 := by
  unfold XM
  refine Met.ofW (cc := cX5_message) (maxL := 8) (ret := (some .int)) (by decide) rfl ?_
  intro p e s m args below meth c s₁ B hml hv
  obtain ⟨rfl, hB0, hP, hK, hN⟩ := hv
  have hx := B.exec
  have hb := B.bytes
  have hr := B.returns
  have hts := atoms_spec (ws := wsX5_message) B.pre
  have hown : s.vm.findClass RX5 = some m.cls := findClass_of_methodNamed B.named
  have hlocks := B.notSynchronized
  have iX1 : ∀ w ∈ u_ws RX1 TX1 3, w ∈ wsX5_message := by decide +kernel
  have iX4 : ∀ w ∈ u_ws RX4 TX4 9, w ∈ wsX5_message := by decide +kernel
  have iX5 : ∀ w ∈ u_ws RX5 TX5 9, w ∈ wsX5_message := by decide +kernel
  have f_37 := hts (.fieldLink RX5 37 "LogSpooler" "ledger" "LLogSpooler$Ledger;") (by decide +kernel)
  have f_41 := hts (.fieldLink RX5 41 "LogSpooler" "now" "I") (by decide +kernel)
  have f_51 := hts (.fieldLink RX5 51 "LogSpooler" "foldTime" "I") (by decide +kernel)
  have f_142 := hts (.fieldLink RX5 142 "LogSpooler$Sender" "tokensLeft" "I") (by decide +kernel)
  have f_145 := hts (.fieldLink RX5 145 "LogSpooler$Sender" "untoldDrops" "I") (by decide +kernel)
  have f_154 := hts (.fieldLink RX5 154 "LogSpooler$Ledger" "entries" "I") (by decide +kernel)
  have hS : va_S (fun q => B0 ≤ q) s.heap s.heap [] := va_S.rf
  have hl := lv_entry ([.ref (ad (0)), .int (p0), .int (p1), .int (p2), .int (p3), .int (p4)]) (n := 8) (Nat.le_of_ble_eq_true rfl)
  rw [lg_entry_eq]
  generalize (lg_sl ([.ref (ad (0)), .int (p0), .int (p1), .int (p2), .int (p3), .int (p4)]) ++ List.replicate (8 - (lg_sl ([.ref (ad (0)), .int (p0), .int (p1), .int (p2), .int (p3), .int (p4)])).length) Slot.unset).toArray = ls at hl ⊢
  have hl : lv_has ls 8 [(0, .ref (ad (0))), (1, .int (p0)), (2, .int (p1)), (3, .int (p2)), (4, .int (p3)), (5, .int (p4))] := hl
  have j_215 : ∀ (v7 : Int32) (s0 : Nat) (s1 : Int32) (h : xH) (H : Heap) (locs : List Loc) (ls : Array Slot), w_X5_message_215 p0 p1 p2 p3 p4 K v7 s0 s1 h → XP ad D T h H → va_S (fun q => B0 ≤ q) s.heap H locs → lv_has ls 8 [(7, .int (v7))] → W p l e (headSpec wsX5_message ({ frames := 4, cells := 0, slots := 0, locals := 95 } : Room)).room s m ([.ref (ad (0)), .int (p0), .int (p1), .int (p2), .int (p3), .int (p4)] : List Value).toArray below meth c H locs 0 0 (MQ below (XQ B0 ad D T xei K) ([.ref (ad (0)), .int (p0), .int (p1), .int (p2), .int (p3), .int (p4)] : List Value).toArray s 0 0 (fun q => B0 ≤ q)) (F0 m 215 ls [.int (s1), .ref (ad (6))]) := by
    intro v7 s0 s1 h H locs ls hw hP hS hl 
    unfold w_X5_message_215 at hw
    refine lv_iload hx hb dX5_message_215 (lv_at hl 0 rfl) ?_
    refine xg_calli (va_runV (As := [.int (s1), .int (v7)]) (rest := []) ⟨hx, hb, hml, hown, hts⟩ (c_X1_enter l hl9 hA s1 v7 hw) (cwV 2 hts gX5_message_X1_enter rfl rfl rfl (by decide +kernel) ⟨Nat.le_of_ble_eq_true rfl, Nat.le_of_ble_eq_true rfl⟩) (xg_preV hB0 hP hK hN hS xs6 rfl) rfl rfl hl.1 rfl (lv_room (Nat.le_of_ble_eq_true rfl)) dX5_message_217 ⟨Nat.le_of_ble_eq_true rfl, Nat.le_of_ble_eq_true rfl⟩) hS (fun r41 h42 H locs hw hP hS => ?_)
    exact xg_irets hx hb hr rfl hlocks hB0 hP hK hN hS dX5_message_220 (by decide) (by decide) hw
  have j_120 : ∀ (v6 : Nat) (h : xH) (H : Heap) (locs : List Loc) (ls : Array Slot), w_X5_message_120 p0 p1 p2 p3 p4 K v6 h → XP ad D T h H → va_S (fun q => B0 ≤ q) s.heap H locs → lv_has ls 8 [(0, .ref (ad (0))), (1, .int (p0)), (2, .int (p1)), (3, .int (p2)), (4, .int (p3)), (5, .int (p4)), (6, .ref (ad (v6)))] → (10 ≤ v6 ∧ v6 < 16) → W p l e (headSpec wsX5_message ({ frames := 4, cells := 0, slots := 0, locals := 95 } : Room)).room s m ([.ref (ad (0)), .int (p0), .int (p1), .int (p2), .int (p3), .int (p4)] : List Value).toArray below meth c H locs 0 0 (MQ below (XQ B0 ad D T xei K) ([.ref (ad (0)), .int (p0), .int (p1), .int (p2), .int (p3), .int (p4)] : List Value).toArray s 0 0 (fun q => B0 ≤ q)) (F0 m 120 ls []) := by
    intro v6 h H locs ls hw hP hS hl hb_v6
    unfold w_X5_message_120 at hw
    refine lv_aload_n hx hb dX5_message_120 rfl (lv_at hl 0 rfl) ?_
    refine lv_aload hx hb dX5_message_121 (lv_at hl 6 rfl) ?_
    refine xg_callv (va_runV (As := [.ref (ad (v6))]) (rest := []) ⟨hx, hb, hml, hown, hts⟩ (c_X5_tellRepeats l hl9 hA v6 hb_v6 hw) (cwV 1 hts gX5_message_X5_tellRepeats rfl rfl rfl (by decide +kernel) ⟨Nat.le_of_ble_eq_true rfl, Nat.le_of_ble_eq_true rfl⟩) (xg_preV hB0 hP hK hN hS xs0 rfl) rfl rfl hl.1 rfl (lv_room (Nat.le_of_ble_eq_true rfl)) dX5_message_123 ⟨Nat.le_of_ble_eq_true rfl, Nat.le_of_ble_eq_true rfl⟩) hS (fun _ h28 H locs hw hP hS => ?_)
    refine lv_aload hx hb dX5_message_126 (lv_at hl 6 rfl) ?_
    refine xg_get (C := RX4) (TC := TX4) (N := 9) hx hb hts iX4 hown hK hP (xsS hb_v6) rfl 1 (by decide) f_142 (fun _ h9 => h9) rfl dX5_message_128 ?_
    refine lv_if_ne (tgt := 155) hx hb dX5_message_131 (by decide) (fun c29 => ?_) (fun c29 => ?_)
    · have hw := hw.2 c29
      refine lv_aload hx hb dX5_message_155 (lv_at hl 6 rfl) ?_
      refine lv_dup hx hb dX5_message_157 rfl ?_
      refine xg_get (C := RX4) (TC := TX4) (N := 9) hx hb hts iX4 hown hK hP (xsS hb_v6) rfl 1 (by decide) f_142 (fun _ h9 => h9) rfl dX5_message_158 ?_
      refine lv_iconst (v := 1) hx hb dX5_message_161 (by decide) ?_
      refine lv_isub hx hb dX5_message_162 ?_
      refine xg_put (C := RX4) (TC := TX4) (N := 9) hx hb hts iX4 tyX4 tyX4_ok nmX4 hown hK hP hA hS (xsS hb_v6) rfl 1 (by decide) f_142 (fun _ h9 => h9) rfl rfl (ty := .int) (by decide +kernel) rfl rfl dX5_message_163 (fun H locs h30 eh30 hP hS => ?_)
      have hw := hw h30 eh30
      refine lv_aload_n hx hb dX5_message_166 rfl (lv_at hl 0 rfl) ?_
      refine lv_aload hx hb dX5_message_167 (lv_at hl 6 rfl) ?_
      refine xg_callv (va_runV (As := [.ref (ad (v6))]) (rest := []) ⟨hx, hb, hml, hown, hts⟩ (c_X5_tellDrops l hl9 hA v6 hb_v6 hw) (cwV 1 hts gX5_message_X5_tellDrops rfl rfl rfl (by decide +kernel) ⟨Nat.le_of_ble_eq_true rfl, Nat.le_of_ble_eq_true rfl⟩) (xg_preV hB0 hP hK hN hS xs0 rfl) rfl rfl hl.1 rfl (lv_room (Nat.le_of_ble_eq_true rfl)) dX5_message_169 ⟨Nat.le_of_ble_eq_true rfl, Nat.le_of_ble_eq_true rfl⟩) hS (fun _ h32 H locs hw hP hS => ?_)
      refine lv_aload hx hb dX5_message_172 (lv_at hl 6 rfl) ?_
      refine lv_iload_n hx hb dX5_message_174 rfl (lv_at hl 2 rfl) ?_
      refine lv_iload_n hx hb dX5_message_175 rfl (lv_at hl 3 rfl) ?_
      refine lv_iload hx hb dX5_message_176 (lv_at hl 4 rfl) ?_
      refine lv_iload hx hb dX5_message_178 (lv_at hl 5 rfl) ?_
      refine xg_callv (va_runV (As := [.int (p1), .int (p2), .int (p3), .int (p4)]) (rest := []) ⟨hx, hb, hml, hown, hts⟩ (c_X4_setLast l hl9 hA v6 hb_v6 p1 p2 p3 p4 hw) (cwV 4 hts gX5_message_X4_setLast rfl rfl rfl (by decide +kernel) ⟨Nat.le_of_ble_eq_true rfl, Nat.le_of_ble_eq_true rfl⟩) (xg_preV hB0 hP hK hN hS (xsS hb_v6) rfl) rfl rfl hl.1 rfl (lv_room (Nat.le_of_ble_eq_true rfl)) dX5_message_180 ⟨Nat.le_of_ble_eq_true rfl, Nat.le_of_ble_eq_true rfl⟩) hS (fun _ h34 H locs hw hP hS => ?_)
      refine lv_aload_n hx hb dX5_message_183 rfl (lv_at hl 0 rfl) ?_
      refine lv_aload_n hx hb dX5_message_184 rfl (lv_at hl 0 rfl) ?_
      refine xg_getr (C := RX5) (TC := TX5) (N := 9) hx hb hts iX5 hown hK hP xs0 rfl 4 (by decide) f_37 (fun _ h9 => h9) rfl dX5_message_185 ?_
      refine xg_get (C := RX1) (TC := TX1) (N := 3) hx hb hts iX1 hown hK hP xs6 rfl 2 (by decide) f_154 (fun _ h9 => h9) rfl dX5_message_188 ?_
      refine lv_iload_n hx hb dX5_message_191 rfl (lv_at hl 1 rfl) ?_
      refine lv_iload_n hx hb dX5_message_192 rfl (lv_at hl 2 rfl) ?_
      refine lv_iload_n hx hb dX5_message_193 rfl (lv_at hl 3 rfl) ?_
      refine lv_iload hx hb dX5_message_194 (lv_at hl 5 rfl) ?_
      refine xg_calli (va_runV (As := [.int ((h34 6 2)), .int (p0), .int (p1), .int (p2), .int (p4)]) (rest := []) ⟨hx, hb, hml, hown, hts⟩ (c_X5_route l hl9 hA (h34 6 2) p0 p1 p2 p4 hw) (cwV 5 hts gX5_message_X5_route rfl rfl rfl (by decide +kernel) ⟨Nat.le_of_ble_eq_true rfl, Nat.le_of_ble_eq_true rfl⟩) (xg_preV hB0 hP hK hN hS xs0 rfl) rfl rfl hl.1 rfl (lv_room (Nat.le_of_ble_eq_true rfl)) dX5_message_196 ⟨Nat.le_of_ble_eq_true rfl, Nat.le_of_ble_eq_true rfl⟩) hS (fun r35 h36 H locs hw hP hS => ?_)
      refine lv_istore (lv' := [(7, .int (r35)), (0, .ref (ad (0))), (1, .int (p0)), (2, .int (p1)), (3, .int (p2)), (4, .int (p3)), (5, .int (p4)), (6, .ref (ad (v6)))]) hx hb dX5_message_199 hl (by decide) rfl (fun ls hl => ?_)
      refine lv_aload_n hx hb dX5_message_201 rfl (lv_at hl 1 rfl) ?_
      refine xg_getr (C := RX5) (TC := TX5) (N := 9) hx hb hts iX5 hown hK hP xs0 rfl 4 (by decide) f_37 (fun _ h9 => h9) rfl dX5_message_202 ?_
      refine lv_iload hx hb dX5_message_205 (lv_at hl 0 rfl) ?_
      refine lv_if_ne (tgt := 214) hx hb dX5_message_207 (by decide) (fun c37 => ?_) (fun c37 => ?_)
      · have hw := hw.2 c37
        refine lv_iconst (v := 3) hx hb dX5_message_214 (by decide) ?_
        exact j_215  (r35) (6) (3) _ _ _ _ hw hP hS (lv_sub hl [0] rfl)
      · have hw := hw.1 c37
        refine lv_iconst (v := 2) hx hb dX5_message_210 (by decide) ?_
        refine lv_goto (tgt := 215) hx hb dX5_message_211 (by decide) ?_
        exact j_215  (r35) (6) (2) _ _ _ _ hw hP hS (lv_sub hl [0] rfl)
    · have hw := hw.1 c29
      refine lv_aload hx hb dX5_message_134 (lv_at hl 6 rfl) ?_
      refine lv_dup hx hb dX5_message_136 rfl ?_
      refine xg_get (C := RX4) (TC := TX4) (N := 9) hx hb hts iX4 hown hK hP (xsS hb_v6) rfl 4 (by decide) f_145 (fun _ h9 => h9) rfl dX5_message_137 ?_
      refine lv_iconst (v := 1) hx hb dX5_message_140 (by decide) ?_
      refine lv_iadd hx hb dX5_message_141 ?_
      refine xg_put (C := RX4) (TC := TX4) (N := 9) hx hb hts iX4 tyX4 tyX4_ok nmX4 hown hK hP hA hS (xsS hb_v6) rfl 4 (by decide) f_145 (fun _ h9 => h9) rfl rfl (ty := .int) (by decide +kernel) rfl rfl dX5_message_142 (fun H locs h38 eh38 hP hS => ?_)
      have hw := hw h38 eh38
      refine lv_aload_n hx hb dX5_message_145 rfl (lv_at hl 0 rfl) ?_
      refine xg_getr (C := RX5) (TC := TX5) (N := 9) hx hb hts iX5 hown hK hP xs0 rfl 4 (by decide) f_37 (fun _ h9 => h9) rfl dX5_message_146 ?_
      refine lv_iconst (v := 1) hx hb dX5_message_149 (by decide) ?_
      refine lv_iconst (v := 0) hx hb dX5_message_150 (by decide) ?_
      refine xg_calli (va_runV (As := [.int (1), .int (0)]) (rest := []) ⟨hx, hb, hml, hown, hts⟩ (c_X1_enter l hl9 hA (1 : Int32) (0 : Int32) hw) (cwV 2 hts gX5_message_X1_enter rfl rfl rfl (by decide +kernel) ⟨Nat.le_of_ble_eq_true rfl, Nat.le_of_ble_eq_true rfl⟩) (xg_preV hB0 hP hK hN hS xs6 rfl) rfl rfl hl.1 rfl (lv_room (Nat.le_of_ble_eq_true rfl)) dX5_message_151 ⟨Nat.le_of_ble_eq_true rfl, Nat.le_of_ble_eq_true rfl⟩) hS (fun r39 h40 H locs hw hP hS => ?_)
      exact xg_irets hx hb hr rfl hlocks hB0 hP hK hN hS dX5_message_154 (by decide) (by decide) hw
  unfold w_X5_message at hw
  refine lv_aload_n hx hb dX5_message_0 rfl (lv_at hl 0 rfl) ?_
  refine lv_iload_n hx hb dX5_message_1 rfl (lv_at hl 1 rfl) ?_
  refine xg_callr (va_runV (As := [.int (p0)]) (rest := []) ⟨hx, hb, hml, hown, hts⟩ (c_X5_senderAt l hl9 hA p0 hw) (cwV 1 hts gX5_message_X5_senderAt rfl rfl rfl (by decide +kernel) ⟨Nat.le_of_ble_eq_true rfl, Nat.le_of_ble_eq_true rfl⟩) (xg_preV hB0 hP hK hN hS xs0 rfl) rfl rfl hl.1 rfl (lv_room (Nat.le_of_ble_eq_true rfl)) dX5_message_2 ⟨Nat.le_of_ble_eq_true rfl, Nat.le_of_ble_eq_true rfl⟩) hS (fun r1 h2 H locs hw hP hS => ?_)
  obtain ⟨hk3, hw⟩ := hw
  refine lv_astore (lv' := [(6, .ref (ad (r1))), (0, .ref (ad (0))), (1, .int (p0)), (2, .int (p1)), (3, .int (p2)), (4, .int (p3)), (5, .int (p4))]) hx hb dX5_message_5 hl (by decide) rfl (fun ls hl => ?_)
  refine lv_iload_n hx hb dX5_message_7 rfl (lv_at hl 3 rfl) ?_
  refine lv_iconst (v := 0) hx hb dX5_message_8 (by decide) ?_
  refine lv_bipush (v := 7) hx hb dX5_message_9 (by decide) ?_
  refine xg_calli (va_runS (As := [.int (p1), .int (0), .int (7)]) (rest := []) ⟨hx, hb, hml, hown, hts⟩ (c_X5_isWithin l hl9 hA p1 (0 : Int32) (7 : Int32) hw) (va_cwS 3 hts gX5_message_X5_isWithin rfl rfl rfl (by decide +kernel) ⟨Nat.le_of_ble_eq_true rfl, Nat.le_of_ble_eq_true rfl⟩) (xg_preS hB0 hP hK hN hS) rfl rfl hl.1 rfl (lv_room (Nat.le_of_ble_eq_true rfl)) dX5_message_11 ⟨Nat.le_of_ble_eq_true rfl, Nat.le_of_ble_eq_true rfl⟩) hS (fun r4 h5 H locs hw hP hS => ?_)
  refine lv_if_eq (tgt := 50) hx hb dX5_message_14 (by decide) (fun c6 => ?_) (fun c6 => ?_)
  · have hw := hw.1 c6
    exact hw.elim
  · have hw := hw.2 c6
    refine lv_iload_n hx hb dX5_message_17 rfl (lv_at hl 4 rfl) ?_
    refine lv_iconst (v := 0) hx hb dX5_message_18 (by decide) ?_
    refine lv_bipush (v := 7) hx hb dX5_message_19 (by decide) ?_
    refine xg_calli (va_runS (As := [.int (p2), .int (0), .int (7)]) (rest := []) ⟨hx, hb, hml, hown, hts⟩ (c_X5_isWithin l hl9 hA p2 (0 : Int32) (7 : Int32) hw) (va_cwS 3 hts gX5_message_X5_isWithin rfl rfl rfl (by decide +kernel) ⟨Nat.le_of_ble_eq_true rfl, Nat.le_of_ble_eq_true rfl⟩) (xg_preS hB0 hP hK hN hS) rfl rfl hl.1 rfl (lv_room (Nat.le_of_ble_eq_true rfl)) dX5_message_21 ⟨Nat.le_of_ble_eq_true rfl, Nat.le_of_ble_eq_true rfl⟩) hS (fun r7 h8 H locs hw hP hS => ?_)
    refine lv_if_eq (tgt := 50) hx hb dX5_message_24 (by decide) (fun c9 => ?_) (fun c9 => ?_)
    · have hw := hw.1 c9
      exact hw.elim
    · have hw := hw.2 c9
      refine lv_iload hx hb dX5_message_27 (lv_at hl 5 rfl) ?_
      refine lv_iconst (v := 0) hx hb dX5_message_29 (by decide) ?_
      refine lv_bipush (v := 99) hx hb dX5_message_30 (by decide) ?_
      refine xg_calli (va_runS (As := [.int (p3), .int (0), .int (99)]) (rest := []) ⟨hx, hb, hml, hown, hts⟩ (c_X5_isWithin l hl9 hA p3 (0 : Int32) (99 : Int32) hw) (va_cwS 3 hts gX5_message_X5_isWithin rfl rfl rfl (by decide +kernel) ⟨Nat.le_of_ble_eq_true rfl, Nat.le_of_ble_eq_true rfl⟩) (xg_preS hB0 hP hK hN hS) rfl rfl hl.1 rfl (lv_room (Nat.le_of_ble_eq_true rfl)) dX5_message_32 ⟨Nat.le_of_ble_eq_true rfl, Nat.le_of_ble_eq_true rfl⟩) hS (fun r10 h11 H locs hw hP hS => ?_)
      refine lv_if_eq (tgt := 50) hx hb dX5_message_35 (by decide) (fun c12 => ?_) (fun c12 => ?_)
      · have hw := hw.1 c12
        exact hw.elim
      · have hw := hw.2 c12
        refine lv_iload hx hb dX5_message_38 (lv_at hl 6 rfl) ?_
        refine lv_iconst (v := 1) hx hb dX5_message_40 (by decide) ?_
        refine lv_sipush (v := 200) hx hb dX5_message_41 (by decide) ?_
        refine xg_calli (va_runS (As := [.int (p4), .int (1), .int (200)]) (rest := []) ⟨hx, hb, hml, hown, hts⟩ (c_X5_isWithin l hl9 hA p4 (1 : Int32) (200 : Int32) hw) (va_cwS 3 hts gX5_message_X5_isWithin rfl rfl rfl (by decide +kernel) ⟨Nat.le_of_ble_eq_true rfl, Nat.le_of_ble_eq_true rfl⟩) (xg_preS hB0 hP hK hN hS) rfl rfl hl.1 rfl (lv_room (Nat.le_of_ble_eq_true rfl)) dX5_message_44 ⟨Nat.le_of_ble_eq_true rfl, Nat.le_of_ble_eq_true rfl⟩) hS (fun r13 h14 H locs hw hP hS => ?_)
        refine lv_if_ne (tgt := 60) hx hb dX5_message_47 (by decide) (fun c15 => ?_) (fun c15 => ?_)
        · have hw := hw.2 c15
          refine lv_aload_n hx hb dX5_message_60 rfl (lv_at hl 1 rfl) ?_
          refine xg_getr (C := RX5) (TC := TX5) (N := 9) hx hb hts iX5 hown hK hP xs0 rfl 4 (by decide) f_37 (fun _ h9 => h9) rfl dX5_message_61 ?_
          refine xg_calli (va_runV (As := []) (rest := []) ⟨hx, hb, hml, hown, hts⟩ (c_X1_isFull l hl9 hA hw) (cwV 0 hts gX5_message_X1_isFull rfl rfl rfl (by decide +kernel) ⟨Nat.le_of_ble_eq_true rfl, Nat.le_of_ble_eq_true rfl⟩) (xg_preV hB0 hP hK hN hS xs6 rfl) rfl rfl hl.1 rfl (lv_room (Nat.le_of_ble_eq_true rfl)) dX5_message_64 ⟨Nat.le_of_ble_eq_true rfl, Nat.le_of_ble_eq_true rfl⟩) hS (fun r16 h17 H locs hw hP hS => ?_)
          refine lv_if_eq (tgt := 80) hx hb dX5_message_67 (by decide) (fun c18 => ?_) (fun c18 => ?_)
          · have hw := hw.1 c18
            refine lv_aload_n hx hb dX5_message_80 rfl (lv_at hl 1 rfl) ?_
            refine xg_get (C := RX5) (TC := TX5) (N := 9) hx hb hts iX5 hown hK hP xs0 rfl 8 (by decide) f_51 (fun _ h9 => h9) rfl dX5_message_81 ?_
            refine lv_if_eq (tgt := 120) hx hb dX5_message_84 (by decide) (fun c19 => ?_) (fun c19 => ?_)
            · have hw := hw.1 c19
              exact j_120  (r1) _ _ _ _ hw hP hS (lv_sub hl [1, 2, 3, 4, 5, 6, 0] rfl) hk3
            · have hw := hw.2 c19
              refine lv_aload hx hb dX5_message_87 (lv_at hl 0 rfl) ?_
              refine lv_iload_n hx hb dX5_message_89 rfl (lv_at hl 3 rfl) ?_
              refine lv_iload_n hx hb dX5_message_90 rfl (lv_at hl 4 rfl) ?_
              refine lv_iload hx hb dX5_message_91 (lv_at hl 5 rfl) ?_
              refine lv_iload hx hb dX5_message_93 (lv_at hl 6 rfl) ?_
              refine xg_calli (va_runV (As := [.int (p1), .int (p2), .int (p3), .int (p4)]) (rest := []) ⟨hx, hb, hml, hown, hts⟩ (c_X4_lastIs l hl9 hA r1 hk3 p1 p2 p3 p4 hw) (cwV 4 hts gX5_message_X4_lastIs rfl rfl rfl (by decide +kernel) ⟨Nat.le_of_ble_eq_true rfl, Nat.le_of_ble_eq_true rfl⟩) (xg_preV hB0 hP hK hN hS (xsS hk3) rfl) rfl rfl hl.1 rfl (lv_room (Nat.le_of_ble_eq_true rfl)) dX5_message_95 ⟨Nat.le_of_ble_eq_true rfl, Nat.le_of_ble_eq_true rfl⟩) hS (fun r20 h21 H locs hw hP hS => ?_)
              refine lv_if_eq (tgt := 120) hx hb dX5_message_98 (by decide) (fun c22 => ?_) (fun c22 => ?_)
              · have hw := hw.1 c22
                exact j_120  (r1) _ _ _ _ hw hP hS (lv_sub hl [1, 2, 3, 4, 5, 6, 0] rfl) hk3
              · have hw := hw.2 c22
                refine lv_aload hx hb dX5_message_101 (lv_at hl 0 rfl) ?_
                refine lv_aload_n hx hb dX5_message_103 rfl (lv_at hl 1 rfl) ?_
                refine xg_get (C := RX5) (TC := TX5) (N := 9) hx hb hts iX5 hown hK hP xs0 rfl 5 (by decide) f_41 (fun _ h9 => h9) rfl dX5_message_104 ?_
                refine xg_callv (va_runV (As := [.int ((h21 0 5))]) (rest := []) ⟨hx, hb, hml, hown, hts⟩ (c_X4_countRepeat l hl9 hA r1 hk3 (h21 0 5) hw) (cwV 1 hts gX5_message_X4_countRepeat rfl rfl rfl (by decide +kernel) ⟨Nat.le_of_ble_eq_true rfl, Nat.le_of_ble_eq_true rfl⟩) (xg_preV hB0 hP hK hN hS (xsS hk3) rfl) rfl rfl hl.1 rfl (lv_room (Nat.le_of_ble_eq_true rfl)) dX5_message_107 ⟨Nat.le_of_ble_eq_true rfl, Nat.le_of_ble_eq_true rfl⟩) hS (fun _ h24 H locs hw hP hS => ?_)
                refine lv_aload_n hx hb dX5_message_110 rfl (lv_at hl 1 rfl) ?_
                refine xg_getr (C := RX5) (TC := TX5) (N := 9) hx hb hts iX5 hown hK hP xs0 rfl 4 (by decide) f_37 (fun _ h9 => h9) rfl dX5_message_111 ?_
                refine lv_iconst (v := 0) hx hb dX5_message_114 (by decide) ?_
                refine lv_iconst (v := 0) hx hb dX5_message_115 (by decide) ?_
                refine xg_calli (va_runV (As := [.int (0), .int (0)]) (rest := []) ⟨hx, hb, hml, hown, hts⟩ (c_X1_enter l hl9 hA (0 : Int32) (0 : Int32) hw) (cwV 2 hts gX5_message_X1_enter rfl rfl rfl (by decide +kernel) ⟨Nat.le_of_ble_eq_true rfl, Nat.le_of_ble_eq_true rfl⟩) (xg_preV hB0 hP hK hN hS xs6 rfl) rfl rfl hl.1 rfl (lv_room (Nat.le_of_ble_eq_true rfl)) dX5_message_116 ⟨Nat.le_of_ble_eq_true rfl, Nat.le_of_ble_eq_true rfl⟩) hS (fun r25 h26 H locs hw hP hS => ?_)
                exact xg_irets hx hb hr rfl hlocks hB0 hP hK hN hS dX5_message_119 (by decide) (by decide) hw
          · have hw := hw.2 c18
            exact hw.elim
        · have hw := hw.1 c15
          exact hw.elim
set_option maxHeartbeats 4000000 in
set_option maxRecDepth 100000 in
theorem c_X5_rotationsOfAllFiles (l : Launch) (hl9 : l.stackTraces = false) {B0 : Nat} {ad : Nat → Nat} {D : va_G} {T : Nat → ClassId} (hA : XA B0 ad) {h : xH} {K : Int32 → xH → Prop} (hw : w_X5_rotationsOfAllFiles h K) : XM l yX5_rotationsOfAllFiles wsX5_rotationsOfAllFiles ({ frames := 0, cells := 0, slots := 0, locals := 0 } : Room) B0 ad D T h [.ref (ad (0))] xei K 0 0 := by
  unfold XM
  refine Met.ofW (cc := cX5_rotationsOfAllFiles) (maxL := 3) (ret := (some .int)) (by decide) rfl ?_
  intro p e s m args below meth c s₁ B hml hv
  obtain ⟨rfl, hB0, hP, hK, hN⟩ := hv
  have hx := B.exec
  have hb := B.bytes
  have hr := B.returns
  have hts := atoms_spec (ws := wsX5_rotationsOfAllFiles) B.pre
  have hown : s.vm.findClass RX5 = some m.cls := findClass_of_methodNamed B.named
  have hlocks := B.notSynchronized
  have iX2 : ∀ w ∈ u_ws RX2 TX2 10, w ∈ wsX5_rotationsOfAllFiles := by decide +kernel
  have iX5 : ∀ w ∈ u_ws RX5 TX5 9, w ∈ wsX5_rotationsOfAllFiles := by decide +kernel
  have f_23 := hts (.fieldLink RX5 23 "LogSpooler" "files" "[LLogSpooler$LogFile;") (by decide +kernel)
  have f_295 := hts (.fieldLink RX5 295 "LogSpooler$LogFile" "rotations" "I") (by decide +kernel)
  have hS : va_S (fun q => B0 ≤ q) s.heap s.heap [] := va_S.rf
  have hl := lv_entry ([.ref (ad (0))]) (n := 3) (Nat.le_of_ble_eq_true rfl)
  rw [lg_entry_eq]
  generalize (lg_sl ([.ref (ad (0))]) ++ List.replicate (3 - (lg_sl ([.ref (ad (0))])).length) Slot.unset).toArray = ls at hl ⊢
  have hl : lv_has ls 3 [(0, .ref (ad (0)))] := hl
  have j_4 : ∀ (n : Nat) (v1 : Int32) (v2 : Int32) (h : xH) (H : Heap) (locs : List Loc) (ls : Array Slot), w_X5_rotationsOfAllFiles_4 K n v1 v2 h → XP ad D T h H → va_S (fun q => B0 ≤ q) s.heap H locs → lv_has ls 3 [(0, .ref (ad (0))), (1, .int (v1)), (2, .int (v2))] → W p l e (headSpec wsX5_rotationsOfAllFiles ({ frames := 0, cells := 0, slots := 0, locals := 0 } : Room)).room s m ([.ref (ad (0))] : List Value).toArray below meth c H locs 0 0 (MQ below (XQ B0 ad D T xei K) ([.ref (ad (0))] : List Value).toArray s 0 0 (fun q => B0 ≤ q)) (F0 m 4 ls []) := by
    intro n
    induction n with
    | zero => intro v1 v2 h H locs ls hw; exact hw.elim
    | succ n9 ih =>
      intro v1 v2 h H locs ls hw hP hS hl 
      rw [w_X5_rotationsOfAllFiles_4_s] at hw
      refine lv_iload_n hx hb dX5_rotationsOfAllFiles_4 rfl (lv_at hl 2 rfl) ?_
      refine lv_iconst (v := 4) hx hb dX5_rotationsOfAllFiles_5 (by decide) ?_
      refine lv_icmp_ge (tgt := 27) hx hb dX5_rotationsOfAllFiles_6 (by decide) (fun c1 => ?_) (fun c1 => ?_)
      · have hw := hw.1 c1
        refine lv_iload_n hx hb dX5_rotationsOfAllFiles_27 rfl (lv_at hl 1 rfl) ?_
        exact xg_irets hx hb hr rfl hlocks hB0 hP hK hN hS dX5_rotationsOfAllFiles_28 (by decide) (by decide) hw
      · have hw := hw.2 c1
        refine lv_iload_n hx hb dX5_rotationsOfAllFiles_9 rfl (lv_at hl 1 rfl) ?_
        refine lv_aload_n hx hb dX5_rotationsOfAllFiles_10 rfl (lv_at hl 0 rfl) ?_
        refine xg_getr (C := RX5) (TC := TX5) (N := 9) hx hb hts iX5 hown hK hP xs0 rfl 2 (by decide) f_23 (fun _ h9 => h9) rfl dX5_rotationsOfAllFiles_11 ?_
        refine lv_iload_n hx hb dX5_rotationsOfAllFiles_14 rfl (lv_at hl 2 rfl) ?_
        obtain ⟨hi2, hw⟩ := hw
        refine xg_aald (t := 3) (C := RX2) hx hb hK hP xs3 rfl hi2 dX5_rotationsOfAllFiles_15 (fun hb3 => ?_)
        have hk4 : 30 ≤ (30 + v2.toNatClampNeg) ∧ (30 + v2.toNatClampNeg) < 34 := by omega
        refine xg_get (C := RX2) (TC := TX2) (N := 10) hx hb hts iX2 hown hK hP (xsF hk4) rfl 9 (by decide) f_295 (fun _ h9 => h9) rfl dX5_rotationsOfAllFiles_16 ?_
        refine lv_iadd hx hb dX5_rotationsOfAllFiles_19 ?_
        refine lv_topi (fun x5 ex5 => ?_)
        have hw := hw x5 ex5
        refine lv_istore_n (lv' := [(1, .int (x5)), (0, .ref (ad (0))), (2, .int (v2))]) hx hb dX5_rotationsOfAllFiles_20 rfl hl (by decide) rfl (fun ls hl => ?_)
        obtain ⟨x6, ex6⟩ : ∃ z : Int32, z = v2 + 1 := ⟨_, rfl⟩
        have hw := hw x6 ex6
        refine lv_iinc (v := x6) (lv' := [(2, .int (x6)), (1, .int (x5)), (0, .ref (ad (0)))]) hx hb dX5_rotationsOfAllFiles_21 hl (k := 2) rfl (by rw [ex6]; rfl) (by decide) rfl (fun ls hl => ?_)
        refine lv_goto (tgt := 4) hx hb dX5_rotationsOfAllFiles_24 (by decide) ?_
        exact ih (x5) (x6) _ _ _ _ hw hP hS (lv_sub hl [2, 1, 0] rfl)
  unfold w_X5_rotationsOfAllFiles at hw
  refine lv_iconst (v := 0) hx hb dX5_rotationsOfAllFiles_0 (by decide) ?_
  refine lv_istore_n (lv' := [(1, .int (0)), (0, .ref (ad (0)))]) hx hb dX5_rotationsOfAllFiles_1 rfl hl (by decide) rfl (fun ls hl => ?_)
  refine lv_iconst (v := 0) hx hb dX5_rotationsOfAllFiles_2 (by decide) ?_
  refine lv_istore_n (lv' := [(2, .int (0)), (1, .int (0)), (0, .ref (ad (0)))]) hx hb dX5_rotationsOfAllFiles_3 rfl hl (by decide) rfl (fun ls hl => ?_)
  obtain ⟨n9, hw⟩ := hw
  exact j_4  n9 (0) (0) _ _ _ _ hw hP hS (lv_sub hl [2, 1, 0] rfl)
set_option maxHeartbeats 4000000 in
set_option maxRecDepth 100000 in
theorem c_X5_giveTokens (l : Launch) (hl9 : l.stackTraces = false) {B0 : Nat} {ad : Nat → Nat} {D : va_G} {T : Nat → ClassId} (hA : XA B0 ad) {h : xH} {K : Unit → xH → Prop} (hw : w_X5_giveTokens h K) : XM l yX5_giveTokens wsX5_giveTokens ({ frames := 1, cells := 0, slots := 0, locals := 21 } : Room) B0 ad D T h [.ref (ad (0))] xev K 0 0 := by
  unfold XM
  refine Met.ofW (cc := cX5_giveTokens) (maxL := 2) (ret := none) (by decide) rfl ?_
  intro p e s m args below meth c s₁ B hml hv
  obtain ⟨rfl, hB0, hP, hK, hN⟩ := hv
  have hx := B.exec
  have hb := B.bytes
  have hr := B.returns
  have hts := atoms_spec (ws := wsX5_giveTokens) B.pre
  have hown : s.vm.findClass RX5 = some m.cls := findClass_of_methodNamed B.named
  have hlocks := B.notSynchronized
  have iX5 : ∀ w ∈ u_ws RX5 TX5 9, w ∈ wsX5_giveTokens := by decide +kernel
  have f_11 := hts (.fieldLink RX5 11 "LogSpooler" "senders" "[LLogSpooler$Sender;") (by decide +kernel)
  have f_45 := hts (.fieldLink RX5 45 "LogSpooler" "burst" "I") (by decide +kernel)
  have hS : va_S (fun q => B0 ≤ q) s.heap s.heap [] := va_S.rf
  have hl := lv_entry ([.ref (ad (0))]) (n := 2) (Nat.le_of_ble_eq_true rfl)
  rw [lg_entry_eq]
  generalize (lg_sl ([.ref (ad (0))]) ++ List.replicate (2 - (lg_sl ([.ref (ad (0))])).length) Slot.unset).toArray = ls at hl ⊢
  have hl : lv_has ls 2 [(0, .ref (ad (0)))] := hl
  have j_2 : ∀ (n : Nat) (v1 : Int32) (h : xH) (H : Heap) (locs : List Loc) (ls : Array Slot), w_X5_giveTokens_2 K n v1 h → XP ad D T h H → va_S (fun q => B0 ≤ q) s.heap H locs → lv_has ls 2 [(0, .ref (ad (0))), (1, .int (v1))] → W p l e (headSpec wsX5_giveTokens ({ frames := 1, cells := 0, slots := 0, locals := 21 } : Room)).room s m ([.ref (ad (0))] : List Value).toArray below meth c H locs 0 0 (MQ below (XQ B0 ad D T xev K) ([.ref (ad (0))] : List Value).toArray s 0 0 (fun q => B0 ≤ q)) (F0 m 2 ls []) := by
    intro n
    induction n with
    | zero => intro v1 h H locs ls hw; exact hw.elim
    | succ n9 ih =>
      intro v1 h H locs ls hw hP hS hl 
      rw [w_X5_giveTokens_2_s] at hw
      refine lv_iload_n hx hb dX5_giveTokens_2 rfl (lv_at hl 1 rfl) ?_
      refine lv_bipush (v := 6) hx hb dX5_giveTokens_3 (by decide) ?_
      refine lv_icmp_ge (tgt := 27) hx hb dX5_giveTokens_5 (by decide) (fun c1 => ?_) (fun c1 => ?_)
      · have hw := hw.1 c1
        exact xg_vrets hx hb hr hlocks hB0 hP hK hN hS dX5_giveTokens_27 (by decide) (by decide) hw
      · have hw := hw.2 c1
        refine lv_aload_n hx hb dX5_giveTokens_8 rfl (lv_at hl 0 rfl) ?_
        refine xg_getr (C := RX5) (TC := TX5) (N := 9) hx hb hts iX5 hown hK hP xs0 rfl 0 (by decide) f_11 (fun _ h9 => h9) rfl dX5_giveTokens_9 ?_
        refine lv_iload_n hx hb dX5_giveTokens_12 rfl (lv_at hl 1 rfl) ?_
        obtain ⟨hi2, hw⟩ := hw
        refine xg_aald (t := 1) (C := RX4) hx hb hK hP xs1 rfl hi2 dX5_giveTokens_13 (fun hb3 => ?_)
        have hk4 : 10 ≤ (10 + v1.toNatClampNeg) ∧ (10 + v1.toNatClampNeg) < 16 := by omega
        refine lv_aload_n hx hb dX5_giveTokens_14 rfl (lv_at hl 0 rfl) ?_
        refine xg_get (C := RX5) (TC := TX5) (N := 9) hx hb hts iX5 hown hK hP xs0 rfl 6 (by decide) f_45 (fun _ h9 => h9) rfl dX5_giveTokens_15 ?_
        refine xg_callv (va_runV (As := [.int ((h 0 6))]) (rest := []) ⟨hx, hb, hml, hown, hts⟩ (c_X4_gainToken l hl9 hA (10 + v1.toNatClampNeg) hk4 (h 0 6) hw) (cwV 1 hts gX5_giveTokens_X4_gainToken rfl rfl rfl (by decide +kernel) ⟨Nat.le_of_ble_eq_true rfl, Nat.le_of_ble_eq_true rfl⟩) (xg_preV hB0 hP hK hN hS (xsS hk4) rfl) rfl rfl hl.1 rfl (lv_room (Nat.le_of_ble_eq_true rfl)) dX5_giveTokens_18 ⟨Nat.le_of_ble_eq_true rfl, Nat.le_of_ble_eq_true rfl⟩) hS (fun _ h6 H locs hw hP hS => ?_)
        obtain ⟨x7, ex7⟩ : ∃ z : Int32, z = v1 + 1 := ⟨_, rfl⟩
        have hw := hw x7 ex7
        refine lv_iinc (v := x7) (lv' := [(1, .int (x7)), (0, .ref (ad (0)))]) hx hb dX5_giveTokens_21 hl (k := 1) rfl (by rw [ex7]; rfl) (by decide) rfl (fun ls hl => ?_)
        refine lv_goto (tgt := 2) hx hb dX5_giveTokens_24 (by decide) ?_
        exact ih (x7) _ _ _ _ hw hP hS (lv_sub hl [1, 0] rfl)
  unfold w_X5_giveTokens at hw
  refine lv_iconst (v := 0) hx hb dX5_giveTokens_0 (by decide) ?_
  refine lv_istore_n (lv' := [(1, .int (0)), (0, .ref (ad (0)))]) hx hb dX5_giveTokens_1 rfl hl (by decide) rfl (fun ls hl => ?_)
  obtain ⟨n9, hw⟩ := hw
  exact j_2  n9 (0) _ _ _ _ hw hP hS (lv_sub hl [1, 0] rfl)
set_option maxHeartbeats 4000000 in
set_option maxRecDepth 100000 in
theorem c_X5_firstWithDueRepeats (l : Launch) (hl9 : l.stackTraces = false) {B0 : Nat} {ad : Nat → Nat} {D : va_G} {T : Nat → ClassId} (hA : XA B0 ad) {h : xH} {K : Option Nat → xH → Prop} (hw : w_X5_firstWithDueRepeats h K) : XM l yX5_firstWithDueRepeats wsX5_firstWithDueRepeats ({ frames := 0, cells := 0, slots := 0, locals := 0 } : Room) B0 ad D T h [.ref (ad (0))] (xeq ad) K 0 0 := by
  unfold XM
  refine Met.ofW (cc := cX5_firstWithDueRepeats) (maxL := 5) (ret := (some (.object "LogSpooler$Sender"))) (by decide) rfl ?_
  intro p e s m args below meth c s₁ B hml hv
  obtain ⟨rfl, hB0, hP, hK, hN⟩ := hv
  have hx := B.exec
  have hb := B.bytes
  have hr := B.returns
  have hts := atoms_spec (ws := wsX5_firstWithDueRepeats) B.pre
  have hown : s.vm.findClass RX5 = some m.cls := findClass_of_methodNamed B.named
  have hlocks := B.notSynchronized
  have iX4 : ∀ w ∈ u_ws RX4 TX4 9, w ∈ wsX5_firstWithDueRepeats := by decide +kernel
  have iX5 : ∀ w ∈ u_ws RX5 TX5 9, w ∈ wsX5_firstWithDueRepeats := by decide +kernel
  have f_11 := hts (.fieldLink RX5 11 "LogSpooler" "senders" "[LLogSpooler$Sender;") (by decide +kernel)
  have f_41 := hts (.fieldLink RX5 41 "LogSpooler" "now" "I") (by decide +kernel)
  have f_51 := hts (.fieldLink RX5 51 "LogSpooler" "foldTime" "I") (by decide +kernel)
  have f_207 := hts (.fieldLink RX5 207 "LogSpooler$Sender" "untoldRepeats" "I") (by decide +kernel)
  have f_289 := hts (.fieldLink RX5 289 "LogSpooler$Sender" "firstRepeat" "I") (by decide +kernel)
  have hS : va_S (fun q => B0 ≤ q) s.heap s.heap [] := va_S.rf
  have hl := lv_entry ([.ref (ad (0))]) (n := 5) (Nat.le_of_ble_eq_true rfl)
  rw [lg_entry_eq]
  generalize (lg_sl ([.ref (ad (0))]) ++ List.replicate (5 - (lg_sl ([.ref (ad (0))])).length) Slot.unset).toArray = ls at hl ⊢
  have hl : lv_has ls 5 [(0, .ref (ad (0)))] := hl
  have j_69 : ∀ (R4 : Option Nat → Int32 → xH → Prop) (hR4 : ∀ (v1 : Option Nat) (v2 : Int32) (h : xH) (H : Heap) (locs : List Loc) (ls : Array Slot), R4 v1 v2 h → XP ad D T h H → va_S (fun q => B0 ≤ q) s.heap H locs → lv_has ls 5 [(0, .ref (ad (0))), (1, va_rf ((v1).map ad)), (2, .int (v2))] → (∀ k : Nat, v1 = some k → 10 ≤ k ∧ k < 16) → W p l e (headSpec wsX5_firstWithDueRepeats ({ frames := 0, cells := 0, slots := 0, locals := 0 } : Room)).room s m ([.ref (ad (0))] : List Value).toArray below meth c H locs 0 0 (MQ below (XQ B0 ad D T (xeq ad) K) ([.ref (ad (0))] : List Value).toArray s 0 0 (fun q => B0 ≤ q)) (F0 m 4 ls [])) (v1 : Option Nat) (v2 : Int32) (h : xH) (H : Heap) (locs : List Loc) (ls : Array Slot), w_X5_firstWithDueRepeats_69 K R4 v1 v2 h → XP ad D T h H → va_S (fun q => B0 ≤ q) s.heap H locs → lv_has ls 5 [(0, .ref (ad (0))), (1, va_rf ((v1).map ad)), (2, .int (v2))] → (∀ k : Nat, v1 = some k → 10 ≤ k ∧ k < 16) → W p l e (headSpec wsX5_firstWithDueRepeats ({ frames := 0, cells := 0, slots := 0, locals := 0 } : Room)).room s m ([.ref (ad (0))] : List Value).toArray below meth c H locs 0 0 (MQ below (XQ B0 ad D T (xeq ad) K) ([.ref (ad (0))] : List Value).toArray s 0 0 (fun q => B0 ≤ q)) (F0 m 69 ls []) := by
    intro R4 hR4 v1 v2 h H locs ls hw hP hS hl hb_v1
    unfold w_X5_firstWithDueRepeats_69 at hw
    obtain ⟨x13, ex13⟩ : ∃ z : Int32, z = v2 + 1 := ⟨_, rfl⟩
    have hw := hw x13 ex13
    refine lv_iinc (v := x13) (lv' := [(2, .int (x13)), (0, .ref (ad (0))), (1, va_rf ((v1).map ad))]) hx hb dX5_firstWithDueRepeats_69 hl (k := 2) rfl (by rw [ex13]; rfl) (by decide) (by simp [xcatq]) (fun ls hl => ?_)
    refine lv_goto (tgt := 4) hx hb dX5_firstWithDueRepeats_72 (by decide) ?_
    exact hR4 (v1) (x13) _ _ _ _ hw hP hS (lv_sub hl [1, 2, 0] rfl) hb_v1
  have j_67 : ∀ (R4 : Option Nat → Int32 → xH → Prop) (hR4 : ∀ (v1 : Option Nat) (v2 : Int32) (h : xH) (H : Heap) (locs : List Loc) (ls : Array Slot), R4 v1 v2 h → XP ad D T h H → va_S (fun q => B0 ≤ q) s.heap H locs → lv_has ls 5 [(0, .ref (ad (0))), (1, va_rf ((v1).map ad)), (2, .int (v2))] → (∀ k : Nat, v1 = some k → 10 ≤ k ∧ k < 16) → W p l e (headSpec wsX5_firstWithDueRepeats ({ frames := 0, cells := 0, slots := 0, locals := 0 } : Room)).room s m ([.ref (ad (0))] : List Value).toArray below meth c H locs 0 0 (MQ below (XQ B0 ad D T (xeq ad) K) ([.ref (ad (0))] : List Value).toArray s 0 0 (fun q => B0 ≤ q)) (F0 m 4 ls [])) (v2 : Int32) (v3 : Nat) (h : xH) (H : Heap) (locs : List Loc) (ls : Array Slot), w_X5_firstWithDueRepeats_67 K R4 v2 v3 h → XP ad D T h H → va_S (fun q => B0 ≤ q) s.heap H locs → lv_has ls 5 [(0, .ref (ad (0))), (2, .int (v2)), (3, .ref (ad (v3)))] → (10 ≤ v3 ∧ v3 < 16) → W p l e (headSpec wsX5_firstWithDueRepeats ({ frames := 0, cells := 0, slots := 0, locals := 0 } : Room)).room s m ([.ref (ad (0))] : List Value).toArray below meth c H locs 0 0 (MQ below (XQ B0 ad D T (xeq ad) K) ([.ref (ad (0))] : List Value).toArray s 0 0 (fun q => B0 ≤ q)) (F0 m 67 ls []) := by
    intro R4 hR4 v2 v3 h H locs ls hw hP hS hl hb_v3
    unfold w_X5_firstWithDueRepeats_67 at hw
    refine lv_aload_n hx hb dX5_firstWithDueRepeats_67 rfl (lv_at hl 2 rfl) ?_
    refine lv_astore_n (lv' := [(1, .ref (ad (v3))), (0, .ref (ad (0))), (2, .int (v2)), (3, .ref (ad (v3)))]) hx hb dX5_firstWithDueRepeats_68 rfl hl (by decide) rfl (fun ls hl => ?_)
    exact j_69 _ (hR4) (some (v3)) (v2) _ _ _ _ hw hP hS (lv_sub hl [1, 0, 2] rfl) (fun _ hz => by cases hz; exact hb_v3)
  have j_45 : ∀ (R4 : Option Nat → Int32 → xH → Prop) (hR4 : ∀ (v1 : Option Nat) (v2 : Int32) (h : xH) (H : Heap) (locs : List Loc) (ls : Array Slot), R4 v1 v2 h → XP ad D T h H → va_S (fun q => B0 ≤ q) s.heap H locs → lv_has ls 5 [(0, .ref (ad (0))), (1, va_rf ((v1).map ad)), (2, .int (v2))] → (∀ k : Nat, v1 = some k → 10 ≤ k ∧ k < 16) → W p l e (headSpec wsX5_firstWithDueRepeats ({ frames := 0, cells := 0, slots := 0, locals := 0 } : Room)).room s m ([.ref (ad (0))] : List Value).toArray below meth c H locs 0 0 (MQ below (XQ B0 ad D T (xeq ad) K) ([.ref (ad (0))] : List Value).toArray s 0 0 (fun q => B0 ≤ q)) (F0 m 4 ls [])) (v1 : Option Nat) (v2 : Int32) (v3 : Nat) (s0 : Int32) (h : xH) (H : Heap) (locs : List Loc) (ls : Array Slot), w_X5_firstWithDueRepeats_45 K R4 v1 v2 v3 s0 h → XP ad D T h H → va_S (fun q => B0 ≤ q) s.heap H locs → lv_has ls 5 [(0, .ref (ad (0))), (1, va_rf ((v1).map ad)), (2, .int (v2)), (3, .ref (ad (v3)))] → (∀ k : Nat, v1 = some k → 10 ≤ k ∧ k < 16) → (10 ≤ v3 ∧ v3 < 16) → W p l e (headSpec wsX5_firstWithDueRepeats ({ frames := 0, cells := 0, slots := 0, locals := 0 } : Room)).room s m ([.ref (ad (0))] : List Value).toArray below meth c H locs 0 0 (MQ below (XQ B0 ad D T (xeq ad) K) ([.ref (ad (0))] : List Value).toArray s 0 0 (fun q => B0 ≤ q)) (F0 m 45 ls [.int (s0)]) := by
    intro R4 hR4 v1 v2 v3 s0 h H locs ls hw hP hS hl hb_v1 hb_v3
    unfold w_X5_firstWithDueRepeats_45 at hw
    refine lv_istore (lv' := [(4, .int (s0)), (0, .ref (ad (0))), (1, va_rf ((v1).map ad)), (2, .int (v2)), (3, .ref (ad (v3)))]) hx hb dX5_firstWithDueRepeats_45 hl (by decide) rfl (fun ls hl => ?_)
    refine lv_iload hx hb dX5_firstWithDueRepeats_47 (lv_at hl 0 rfl) ?_
    refine lv_if_eq (tgt := 69) hx hb dX5_firstWithDueRepeats_49 (by decide) (fun c9 => ?_) (fun c9 => ?_)
    · have hw := hw.1 c9
      exact j_69 _ (hR4) (v1) (v2) _ _ _ _ hw hP hS (lv_sub hl [1, 2, 3] rfl) hb_v1
    · have hw := hw.2 c9
      rcases v1 with _ | k10
      · have hw := hw.1 rfl
        have hl : lv_has ls 5 [(4, .int (s0)), (0, .ref (ad (0))), (1, .null), (2, .int (v2)), (3, .ref (ad (v3)))] := hl
        refine lv_aload_nN hx hb dX5_firstWithDueRepeats_52 rfl (lv_at hl 2 rfl) ?_
        refine lv_ifnullN (tgt := 67) hx hb dX5_firstWithDueRepeats_53 (by decide) ?_
        exact j_67 _ (hR4) (v2) (v3) _ _ _ _ hw hP hS (lv_sub hl [1, 3, 4] rfl) hb_v3
      · have hw := hw.2 k10 rfl
        have hk11 := hb_v1 k10 rfl
        have hl : lv_has ls 5 [(4, .int (s0)), (0, .ref (ad (0))), (1, .ref (ad (k10))), (2, .int (v2)), (3, .ref (ad (v3)))] := hl
        refine lv_aload_n hx hb dX5_firstWithDueRepeats_52 rfl (lv_at hl 2 rfl) ?_
        refine lv_ifnull hx hb dX5_firstWithDueRepeats_53 ?_
        refine lv_aload_n hx hb dX5_firstWithDueRepeats_56 rfl (lv_at hl 4 rfl) ?_
        refine xg_get (C := RX4) (TC := TX4) (N := 9) hx hb hts iX4 hown hK hP (xsS hb_v3) rfl 3 (by decide) f_289 (fun _ h9 => h9) rfl dX5_firstWithDueRepeats_57 ?_
        refine lv_aload_n hx hb dX5_firstWithDueRepeats_60 rfl (lv_at hl 2 rfl) ?_
        refine xg_get (C := RX4) (TC := TX4) (N := 9) hx hb hts iX4 hown hK hP (xsS hk11) rfl 3 (by decide) f_289 (fun _ h9 => h9) rfl dX5_firstWithDueRepeats_61 ?_
        refine lv_icmp_ge (tgt := 69) hx hb dX5_firstWithDueRepeats_64 (by decide) (fun c12 => ?_) (fun c12 => ?_)
        · have hw := hw.1 c12
          exact j_69 _ (hR4) (some (k10)) (v2) _ _ _ _ hw hP hS (lv_sub hl [1, 2, 3] rfl) (fun _ hz => by cases hz; exact hk11)
        · have hw := hw.2 c12
          exact j_67 _ (hR4) (v2) (v3) _ _ _ _ hw hP hS (lv_sub hl [1, 3, 4] rfl) hb_v3
  have j_44 : ∀ (R4 : Option Nat → Int32 → xH → Prop) (hR4 : ∀ (v1 : Option Nat) (v2 : Int32) (h : xH) (H : Heap) (locs : List Loc) (ls : Array Slot), R4 v1 v2 h → XP ad D T h H → va_S (fun q => B0 ≤ q) s.heap H locs → lv_has ls 5 [(0, .ref (ad (0))), (1, va_rf ((v1).map ad)), (2, .int (v2))] → (∀ k : Nat, v1 = some k → 10 ≤ k ∧ k < 16) → W p l e (headSpec wsX5_firstWithDueRepeats ({ frames := 0, cells := 0, slots := 0, locals := 0 } : Room)).room s m ([.ref (ad (0))] : List Value).toArray below meth c H locs 0 0 (MQ below (XQ B0 ad D T (xeq ad) K) ([.ref (ad (0))] : List Value).toArray s 0 0 (fun q => B0 ≤ q)) (F0 m 4 ls [])) (v1 : Option Nat) (v2 : Int32) (v3 : Nat) (h : xH) (H : Heap) (locs : List Loc) (ls : Array Slot), w_X5_firstWithDueRepeats_44 K R4 v1 v2 v3 h → XP ad D T h H → va_S (fun q => B0 ≤ q) s.heap H locs → lv_has ls 5 [(0, .ref (ad (0))), (1, va_rf ((v1).map ad)), (2, .int (v2)), (3, .ref (ad (v3)))] → (∀ k : Nat, v1 = some k → 10 ≤ k ∧ k < 16) → (10 ≤ v3 ∧ v3 < 16) → W p l e (headSpec wsX5_firstWithDueRepeats ({ frames := 0, cells := 0, slots := 0, locals := 0 } : Room)).room s m ([.ref (ad (0))] : List Value).toArray below meth c H locs 0 0 (MQ below (XQ B0 ad D T (xeq ad) K) ([.ref (ad (0))] : List Value).toArray s 0 0 (fun q => B0 ≤ q)) (F0 m 44 ls []) := by
    intro R4 hR4 v1 v2 v3 h H locs ls hw hP hS hl hb_v1 hb_v3
    unfold w_X5_firstWithDueRepeats_44 at hw
    refine lv_iconst (v := 0) hx hb dX5_firstWithDueRepeats_44 (by decide) ?_
    exact j_45 _ (hR4) (v1) (v2) (v3) (0) _ _ _ _ hw hP hS (lv_sub hl [0, 1, 2, 3] rfl) hb_v1 hb_v3
  have j_4 : ∀ (n : Nat) (v1 : Option Nat) (v2 : Int32) (h : xH) (H : Heap) (locs : List Loc) (ls : Array Slot), w_X5_firstWithDueRepeats_4 K n v1 v2 h → XP ad D T h H → va_S (fun q => B0 ≤ q) s.heap H locs → lv_has ls 5 [(0, .ref (ad (0))), (1, va_rf ((v1).map ad)), (2, .int (v2))] → (∀ k : Nat, v1 = some k → 10 ≤ k ∧ k < 16) → W p l e (headSpec wsX5_firstWithDueRepeats ({ frames := 0, cells := 0, slots := 0, locals := 0 } : Room)).room s m ([.ref (ad (0))] : List Value).toArray below meth c H locs 0 0 (MQ below (XQ B0 ad D T (xeq ad) K) ([.ref (ad (0))] : List Value).toArray s 0 0 (fun q => B0 ≤ q)) (F0 m 4 ls []) := by
    intro n
    induction n with
    | zero => intro v1 v2 h H locs ls hw; exact hw.elim
    | succ n9 ih =>
      intro v1 v2 h H locs ls hw hP hS hl hb_v1
      rw [w_X5_firstWithDueRepeats_4_s] at hw
      refine lv_iload_n hx hb dX5_firstWithDueRepeats_4 rfl (lv_at hl 2 rfl) ?_
      refine lv_bipush (v := 6) hx hb dX5_firstWithDueRepeats_5 (by decide) ?_
      refine lv_icmp_ge (tgt := 75) hx hb dX5_firstWithDueRepeats_7 (by decide) (fun c1 => ?_) (fun c1 => ?_)
      · have hw := hw.1 c1
        rcases v1 with _ | k2
        · have hw := hw.1 rfl
          have hl : lv_has ls 5 [(0, .ref (ad (0))), (1, .null), (2, .int (v2))] := hl
          refine lv_aload_nN hx hb dX5_firstWithDueRepeats_75 rfl (lv_at hl 1 rfl) ?_
          exact xg_arets (r := none) hx hb hr (Or.inl ⟨_, rfl⟩) (Or.inl rfl) rfl hlocks hB0 hP hK hN hS dX5_firstWithDueRepeats_76 (by decide) (by decide) hw
        · have hw := hw.2 k2 rfl
          have hk3 := hb_v1 k2 rfl
          have hl : lv_has ls 5 [(0, .ref (ad (0))), (1, .ref (ad (k2))), (2, .int (v2))] := hl
          refine lv_aload_n hx hb dX5_firstWithDueRepeats_75 rfl (lv_at hl 1 rfl) ?_
          exact xg_arets (r := (some k2)) hx hb hr (Or.inl ⟨_, rfl⟩) (Or.inr ⟨_, rfl⟩) rfl hlocks hB0 hP hK hN hS dX5_firstWithDueRepeats_76 (by decide) (by decide) hw
      · have hw := hw.2 c1
        refine lv_aload_n hx hb dX5_firstWithDueRepeats_10 rfl (lv_at hl 0 rfl) ?_
        refine xg_getr (C := RX5) (TC := TX5) (N := 9) hx hb hts iX5 hown hK hP xs0 rfl 0 (by decide) f_11 (fun _ h9 => h9) rfl dX5_firstWithDueRepeats_11 ?_
        refine lv_iload_n hx hb dX5_firstWithDueRepeats_14 rfl (lv_at hl 2 rfl) ?_
        obtain ⟨hi4, hw⟩ := hw
        refine xg_aald (t := 1) (C := RX4) hx hb hK hP xs1 rfl hi4 dX5_firstWithDueRepeats_15 (fun hb5 => ?_)
        have hk6 : 10 ≤ (10 + v2.toNatClampNeg) ∧ (10 + v2.toNatClampNeg) < 16 := by omega
        refine lv_astore_n (lv' := [(3, .ref (ad ((10 + v2.toNatClampNeg)))), (0, .ref (ad (0))), (1, va_rf ((v1).map ad)), (2, .int (v2))]) hx hb dX5_firstWithDueRepeats_16 rfl hl (by decide) rfl (fun ls hl => ?_)
        refine lv_aload_n hx hb dX5_firstWithDueRepeats_17 rfl (lv_at hl 0 rfl) ?_
        refine xg_get (C := RX4) (TC := TX4) (N := 9) hx hb hts iX4 hown hK hP (xsS hk6) rfl 2 (by decide) f_207 (fun _ h9 => h9) rfl dX5_firstWithDueRepeats_18 ?_
        refine lv_if_le (tgt := 44) hx hb dX5_firstWithDueRepeats_21 (by decide) (fun c7 => ?_) (fun c7 => ?_)
        · have hw := hw.1 c7
          exact j_44 _ (ih) (v1) (v2) ((10 + v2.toNatClampNeg)) _ _ _ _ hw hP hS (lv_sub hl [1, 2, 3, 0] rfl) hb_v1 hk6
        · have hw := hw.2 c7
          refine lv_aload_n hx hb dX5_firstWithDueRepeats_24 rfl (lv_at hl 1 rfl) ?_
          refine xg_get (C := RX5) (TC := TX5) (N := 9) hx hb hts iX5 hown hK hP xs0 rfl 5 (by decide) f_41 (fun _ h9 => h9) rfl dX5_firstWithDueRepeats_25 ?_
          refine lv_aload_n hx hb dX5_firstWithDueRepeats_28 rfl (lv_at hl 0 rfl) ?_
          refine xg_get (C := RX4) (TC := TX4) (N := 9) hx hb hts iX4 hown hK hP (xsS hk6) rfl 3 (by decide) f_289 (fun _ h9 => h9) rfl dX5_firstWithDueRepeats_29 ?_
          refine lv_isub hx hb dX5_firstWithDueRepeats_32 ?_
          refine lv_aload_n hx hb dX5_firstWithDueRepeats_33 rfl (lv_at hl 1 rfl) ?_
          refine xg_get (C := RX5) (TC := TX5) (N := 9) hx hb hts iX5 hown hK hP xs0 rfl 8 (by decide) f_51 (fun _ h9 => h9) rfl dX5_firstWithDueRepeats_34 ?_
          refine lv_icmp_lt (tgt := 44) hx hb dX5_firstWithDueRepeats_37 (by decide) (fun c8 => ?_) (fun c8 => ?_)
          · have hw := hw.1 c8
            exact j_44 _ (ih) (v1) (v2) ((10 + v2.toNatClampNeg)) _ _ _ _ hw hP hS (lv_sub hl [1, 2, 3, 0] rfl) hb_v1 hk6
          · have hw := hw.2 c8
            refine lv_iconst (v := 1) hx hb dX5_firstWithDueRepeats_40 (by decide) ?_
            refine lv_goto (tgt := 45) hx hb dX5_firstWithDueRepeats_41 (by decide) ?_
            exact j_45 _ (ih) (v1) (v2) ((10 + v2.toNatClampNeg)) (1) _ _ _ _ hw hP hS (lv_sub hl [1, 2, 3, 0] rfl) hb_v1 hk6
  unfold w_X5_firstWithDueRepeats at hw
  refine lv_null hx hb dX5_firstWithDueRepeats_0 ?_
  refine lv_astore_nN (lv' := [(1, .null), (0, .ref (ad (0)))]) hx hb dX5_firstWithDueRepeats_1 rfl hl (by decide) rfl (fun ls hl => ?_)
  refine lv_iconst (v := 0) hx hb dX5_firstWithDueRepeats_2 (by decide) ?_
  refine lv_istore_n (lv' := [(2, .int (0)), (1, .null), (0, .ref (ad (0)))]) hx hb dX5_firstWithDueRepeats_3 rfl hl (by decide) rfl (fun ls hl => ?_)
  obtain ⟨n9, hw⟩ := hw
  exact j_4  n9 none (0) _ _ _ _ hw hP hS (lv_sub hl [2, 1, 0] rfl) (fun _ hz => nomatch hz)
set_option maxHeartbeats 4000000 in
set_option maxRecDepth 100000 in
theorem c_X5_tellDueRepeats (l : Launch) (hl9 : l.stackTraces = false) {B0 : Nat} {ad : Nat → Nat} {D : va_G} {T : Nat → ClassId} (hA : XA B0 ad) {h : xH} {K : Unit → xH → Prop} (hw : w_X5_tellDueRepeats h K) : XM l yX5_tellDueRepeats wsX5_tellDueRepeats ({ frames := 4, cells := 0, slots := 0, locals := 95 } : Room) B0 ad D T h [.ref (ad (0))] xev K 0 0 := by
  unfold XM
  refine Met.ofW (cc := cX5_tellDueRepeats) (maxL := 3) (ret := none) (by decide) rfl ?_
  intro p e s m args below meth c s₁ B hml hv
  obtain ⟨rfl, hB0, hP, hK, hN⟩ := hv
  have hx := B.exec
  have hb := B.bytes
  have hr := B.returns
  have hts := atoms_spec (ws := wsX5_tellDueRepeats) B.pre
  have hown : s.vm.findClass RX5 = some m.cls := findClass_of_methodNamed B.named
  have hlocks := B.notSynchronized
  have hS : va_S (fun q => B0 ≤ q) s.heap s.heap [] := va_S.rf
  have hl := lv_entry ([.ref (ad (0))]) (n := 3) (Nat.le_of_ble_eq_true rfl)
  rw [lg_entry_eq]
  generalize (lg_sl ([.ref (ad (0))]) ++ List.replicate (3 - (lg_sl ([.ref (ad (0))])).length) Slot.unset).toArray = ls at hl ⊢
  have hl : lv_has ls 3 [(0, .ref (ad (0)))] := hl
  have j_2 : ∀ (n : Nat) (v1 : Int32) (h : xH) (H : Heap) (locs : List Loc) (ls : Array Slot), w_X5_tellDueRepeats_2 K n v1 h → XP ad D T h H → va_S (fun q => B0 ≤ q) s.heap H locs → lv_has ls 3 [(0, .ref (ad (0))), (1, .int (v1))] → W p l e (headSpec wsX5_tellDueRepeats ({ frames := 4, cells := 0, slots := 0, locals := 95 } : Room)).room s m ([.ref (ad (0))] : List Value).toArray below meth c H locs 0 0 (MQ below (XQ B0 ad D T xev K) ([.ref (ad (0))] : List Value).toArray s 0 0 (fun q => B0 ≤ q)) (F0 m 2 ls []) := by
    intro n
    induction n with
    | zero => intro v1 h H locs ls hw; exact hw.elim
    | succ n9 ih =>
      intro v1 h H locs ls hw hP hS hl 
      rw [w_X5_tellDueRepeats_2_s] at hw
      refine lv_iload_n hx hb dX5_tellDueRepeats_2 rfl (lv_at hl 1 rfl) ?_
      refine lv_bipush (v := 6) hx hb dX5_tellDueRepeats_3 (by decide) ?_
      refine lv_icmp_ge (tgt := 29) hx hb dX5_tellDueRepeats_5 (by decide) (fun c1 => ?_) (fun c1 => ?_)
      · have hw := hw.1 c1
        exact xg_vrets hx hb hr hlocks hB0 hP hK hN hS dX5_tellDueRepeats_29 (by decide) (by decide) hw
      · have hw := hw.2 c1
        refine lv_aload_n hx hb dX5_tellDueRepeats_8 rfl (lv_at hl 0 rfl) ?_
        refine xg_callq (va_runV (As := []) (rest := []) ⟨hx, hb, hml, hown, hts⟩ (c_X5_firstWithDueRepeats l hl9 hA hw) (cwV 0 hts gX5_tellDueRepeats_X5_firstWithDueRepeats rfl rfl rfl (by decide +kernel) ⟨Nat.le_of_ble_eq_true rfl, Nat.le_of_ble_eq_true rfl⟩) (xg_preV hB0 hP hK hN hS xs0 rfl) rfl rfl hl.1 rfl (lv_room (Nat.le_of_ble_eq_true rfl)) dX5_tellDueRepeats_9 ⟨Nat.le_of_ble_eq_true rfl, Nat.le_of_ble_eq_true rfl⟩) hS (fun r2 h3 H locs hw hP hS => ?_)
        obtain ⟨hk4, hw⟩ := hw
        rcases r2 with _ | k5
        · have hw := hw.1 rfl
          refine lv_astore_nN (lv' := [(2, .null), (0, .ref (ad (0))), (1, .int (v1))]) hx hb dX5_tellDueRepeats_12 rfl hl (by decide) rfl (fun ls hl => ?_)
          refine lv_aload_nN hx hb dX5_tellDueRepeats_13 rfl (lv_at hl 0 rfl) ?_
          refine lv_ifnonnullN hx hb dX5_tellDueRepeats_14 ?_
          exact xg_vrets hx hb hr hlocks hB0 hP hK hN hS dX5_tellDueRepeats_17 (by decide) (by decide) hw
        · have hw := hw.2 k5 rfl
          have hk6 := hk4 k5 rfl
          refine lv_astore_n (lv' := [(2, .ref (ad (k5))), (0, .ref (ad (0))), (1, .int (v1))]) hx hb dX5_tellDueRepeats_12 rfl hl (by decide) rfl (fun ls hl => ?_)
          refine lv_aload_n hx hb dX5_tellDueRepeats_13 rfl (lv_at hl 0 rfl) ?_
          refine lv_ifnonnull (tgt := 18) hx hb dX5_tellDueRepeats_14 (by decide) ?_
          refine lv_aload_n hx hb dX5_tellDueRepeats_18 rfl (lv_at hl 1 rfl) ?_
          refine lv_aload_n hx hb dX5_tellDueRepeats_19 rfl (lv_at hl 0 rfl) ?_
          refine xg_callv (va_runV (As := [.ref (ad (k5))]) (rest := []) ⟨hx, hb, hml, hown, hts⟩ (c_X5_tellRepeats l hl9 hA k5 hk6 hw) (cwV 1 hts gX5_tellDueRepeats_X5_tellRepeats rfl rfl rfl (by decide +kernel) ⟨Nat.le_of_ble_eq_true rfl, Nat.le_of_ble_eq_true rfl⟩) (xg_preV hB0 hP hK hN hS xs0 rfl) rfl rfl hl.1 rfl (lv_room (Nat.le_of_ble_eq_true rfl)) dX5_tellDueRepeats_20 ⟨Nat.le_of_ble_eq_true rfl, Nat.le_of_ble_eq_true rfl⟩) hS (fun _ h8 H locs hw hP hS => ?_)
          obtain ⟨x9, ex9⟩ : ∃ z : Int32, z = v1 + 1 := ⟨_, rfl⟩
          have hw := hw x9 ex9
          refine lv_iinc (v := x9) (lv' := [(1, .int (x9)), (2, .ref (ad (k5))), (0, .ref (ad (0)))]) hx hb dX5_tellDueRepeats_23 hl (k := 2) rfl (by rw [ex9]; rfl) (by decide) rfl (fun ls hl => ?_)
          refine lv_goto (tgt := 2) hx hb dX5_tellDueRepeats_26 (by decide) ?_
          exact ih (x9) _ _ _ _ hw hP hS (lv_sub hl [2, 0] rfl)
  unfold w_X5_tellDueRepeats at hw
  refine lv_iconst (v := 0) hx hb dX5_tellDueRepeats_0 (by decide) ?_
  refine lv_istore_n (lv' := [(1, .int (0)), (0, .ref (ad (0)))]) hx hb dX5_tellDueRepeats_1 rfl hl (by decide) rfl (fun ls hl => ?_)
  obtain ⟨n9, hw⟩ := hw
  exact j_2  n9 (0) _ _ _ _ hw hP hS (lv_sub hl [1, 0] rfl)
set_option maxHeartbeats 4000000 in
set_option maxRecDepth 100000 in
theorem c_X5_rotateAgedFiles (l : Launch) (hl9 : l.stackTraces = false) {B0 : Nat} {ad : Nat → Nat} {D : va_G} {T : Nat → ClassId} (hA : XA B0 ad) {h : xH} {K : Unit → xH → Prop} (hw : w_X5_rotateAgedFiles h K) : XM l yX5_rotateAgedFiles wsX5_rotateAgedFiles ({ frames := 2, cells := 0, slots := 0, locals := 41 } : Room) B0 ad D T h [.ref (ad (0))] xev K 0 0 := by
  unfold XM
  refine Met.ofW (cc := cX5_rotateAgedFiles) (maxL := 2) (ret := none) (by decide) rfl ?_
  intro p e s m args below meth c s₁ B hml hv
  obtain ⟨rfl, hB0, hP, hK, hN⟩ := hv
  have hx := B.exec
  have hb := B.bytes
  have hr := B.returns
  have hts := atoms_spec (ws := wsX5_rotateAgedFiles) B.pre
  have hown : s.vm.findClass RX5 = some m.cls := findClass_of_methodNamed B.named
  have hlocks := B.notSynchronized
  have iX5 : ∀ w ∈ u_ws RX5 TX5 9, w ∈ wsX5_rotateAgedFiles := by decide +kernel
  have f_23 := hts (.fieldLink RX5 23 "LogSpooler" "files" "[LLogSpooler$LogFile;") (by decide +kernel)
  have f_41 := hts (.fieldLink RX5 41 "LogSpooler" "now" "I") (by decide +kernel)
  have hS : va_S (fun q => B0 ≤ q) s.heap s.heap [] := va_S.rf
  have hl := lv_entry ([.ref (ad (0))]) (n := 2) (Nat.le_of_ble_eq_true rfl)
  rw [lg_entry_eq]
  generalize (lg_sl ([.ref (ad (0))]) ++ List.replicate (2 - (lg_sl ([.ref (ad (0))])).length) Slot.unset).toArray = ls at hl ⊢
  have hl : lv_has ls 2 [(0, .ref (ad (0)))] := hl
  have j_32 : ∀ (R2 : Int32 → xH → Prop) (hR2 : ∀ (v1 : Int32) (h : xH) (H : Heap) (locs : List Loc) (ls : Array Slot), R2 v1 h → XP ad D T h H → va_S (fun q => B0 ≤ q) s.heap H locs → lv_has ls 2 [(0, .ref (ad (0))), (1, .int (v1))] → W p l e (headSpec wsX5_rotateAgedFiles ({ frames := 2, cells := 0, slots := 0, locals := 41 } : Room)).room s m ([.ref (ad (0))] : List Value).toArray below meth c H locs 0 0 (MQ below (XQ B0 ad D T xev K) ([.ref (ad (0))] : List Value).toArray s 0 0 (fun q => B0 ≤ q)) (F0 m 2 ls [])) (v1 : Int32) (h : xH) (H : Heap) (locs : List Loc) (ls : Array Slot), w_X5_rotateAgedFiles_32 K R2 v1 h → XP ad D T h H → va_S (fun q => B0 ≤ q) s.heap H locs → lv_has ls 2 [(0, .ref (ad (0))), (1, .int (v1))] → W p l e (headSpec wsX5_rotateAgedFiles ({ frames := 2, cells := 0, slots := 0, locals := 41 } : Room)).room s m ([.ref (ad (0))] : List Value).toArray below meth c H locs 0 0 (MQ below (XQ B0 ad D T xev K) ([.ref (ad (0))] : List Value).toArray s 0 0 (fun q => B0 ≤ q)) (F0 m 32 ls []) := by
    intro R2 hR2 v1 h H locs ls hw hP hS hl 
    unfold w_X5_rotateAgedFiles_32 at hw
    obtain ⟨x13, ex13⟩ : ∃ z : Int32, z = v1 + 1 := ⟨_, rfl⟩
    have hw := hw x13 ex13
    refine lv_iinc (v := x13) (lv' := [(1, .int (x13)), (0, .ref (ad (0)))]) hx hb dX5_rotateAgedFiles_32 hl (k := 1) rfl (by rw [ex13]; rfl) (by decide) rfl (fun ls hl => ?_)
    refine lv_goto (tgt := 2) hx hb dX5_rotateAgedFiles_35 (by decide) ?_
    exact hR2 (x13) _ _ _ _ hw hP hS (lv_sub hl [1, 0] rfl)
  have j_2 : ∀ (n : Nat) (v1 : Int32) (h : xH) (H : Heap) (locs : List Loc) (ls : Array Slot), w_X5_rotateAgedFiles_2 K n v1 h → XP ad D T h H → va_S (fun q => B0 ≤ q) s.heap H locs → lv_has ls 2 [(0, .ref (ad (0))), (1, .int (v1))] → W p l e (headSpec wsX5_rotateAgedFiles ({ frames := 2, cells := 0, slots := 0, locals := 41 } : Room)).room s m ([.ref (ad (0))] : List Value).toArray below meth c H locs 0 0 (MQ below (XQ B0 ad D T xev K) ([.ref (ad (0))] : List Value).toArray s 0 0 (fun q => B0 ≤ q)) (F0 m 2 ls []) := by
    intro n
    induction n with
    | zero => intro v1 h H locs ls hw; exact hw.elim
    | succ n9 ih =>
      intro v1 h H locs ls hw hP hS hl 
      rw [w_X5_rotateAgedFiles_2_s] at hw
      refine lv_iload_n hx hb dX5_rotateAgedFiles_2 rfl (lv_at hl 1 rfl) ?_
      refine lv_iconst (v := 4) hx hb dX5_rotateAgedFiles_3 (by decide) ?_
      refine lv_icmp_ge (tgt := 38) hx hb dX5_rotateAgedFiles_4 (by decide) (fun c1 => ?_) (fun c1 => ?_)
      · have hw := hw.1 c1
        exact xg_vrets hx hb hr hlocks hB0 hP hK hN hS dX5_rotateAgedFiles_38 (by decide) (by decide) hw
      · have hw := hw.2 c1
        refine lv_aload_n hx hb dX5_rotateAgedFiles_7 rfl (lv_at hl 0 rfl) ?_
        refine xg_getr (C := RX5) (TC := TX5) (N := 9) hx hb hts iX5 hown hK hP xs0 rfl 2 (by decide) f_23 (fun _ h9 => h9) rfl dX5_rotateAgedFiles_8 ?_
        refine lv_iload_n hx hb dX5_rotateAgedFiles_11 rfl (lv_at hl 1 rfl) ?_
        obtain ⟨hi2, hw⟩ := hw
        refine xg_aald (t := 3) (C := RX2) hx hb hK hP xs3 rfl hi2 dX5_rotateAgedFiles_12 (fun hb3 => ?_)
        have hk4 : 30 ≤ (30 + v1.toNatClampNeg) ∧ (30 + v1.toNatClampNeg) < 34 := by omega
        refine lv_aload_n hx hb dX5_rotateAgedFiles_13 rfl (lv_at hl 0 rfl) ?_
        refine xg_get (C := RX5) (TC := TX5) (N := 9) hx hb hts iX5 hown hK hP xs0 rfl 5 (by decide) f_41 (fun _ h9 => h9) rfl dX5_rotateAgedFiles_14 ?_
        refine xg_calli (va_runV (As := [.int ((h 0 5))]) (rest := []) ⟨hx, hb, hml, hown, hts⟩ (c_X2_isAged l hl9 hA (30 + v1.toNatClampNeg) hk4 (h 0 5) hw) (cwV 1 hts gX5_rotateAgedFiles_X2_isAged rfl rfl rfl (by decide +kernel) ⟨Nat.le_of_ble_eq_true rfl, Nat.le_of_ble_eq_true rfl⟩) (xg_preV hB0 hP hK hN hS (xsF hk4) rfl) rfl rfl hl.1 rfl (lv_room (Nat.le_of_ble_eq_true rfl)) dX5_rotateAgedFiles_17 ⟨Nat.le_of_ble_eq_true rfl, Nat.le_of_ble_eq_true rfl⟩) hS (fun r5 h6 H locs hw hP hS => ?_)
        refine lv_if_eq (tgt := 32) hx hb dX5_rotateAgedFiles_20 (by decide) (fun c7 => ?_) (fun c7 => ?_)
        · have hw := hw.1 c7
          exact j_32 _ (ih) (v1) _ _ _ _ hw hP hS (lv_sub hl [0, 1] rfl)
        · have hw := hw.2 c7
          refine lv_aload_n hx hb dX5_rotateAgedFiles_23 rfl (lv_at hl 0 rfl) ?_
          refine xg_getr (C := RX5) (TC := TX5) (N := 9) hx hb hts iX5 hown hK hP xs0 rfl 2 (by decide) f_23 (fun _ h9 => h9) rfl dX5_rotateAgedFiles_24 ?_
          refine lv_iload_n hx hb dX5_rotateAgedFiles_27 rfl (lv_at hl 1 rfl) ?_
          obtain ⟨hi8, hw⟩ := hw
          refine xg_aald (t := 3) (C := RX2) hx hb hK hP xs3 rfl hi8 dX5_rotateAgedFiles_28 (fun hb9 => ?_)
          have hk10 : 30 ≤ (30 + v1.toNatClampNeg) ∧ (30 + v1.toNatClampNeg) < 34 := by omega
          refine xg_callv (va_runV (As := []) (rest := []) ⟨hx, hb, hml, hown, hts⟩ (c_X2_turnOver l hl9 hA (30 + v1.toNatClampNeg) hk10 hw) (cwV 0 hts gX5_rotateAgedFiles_X2_turnOver rfl rfl rfl (by decide +kernel) ⟨Nat.le_of_ble_eq_true rfl, Nat.le_of_ble_eq_true rfl⟩) (xg_preV hB0 hP hK hN hS (xsF hk10) rfl) rfl rfl hl.1 rfl (lv_room (Nat.le_of_ble_eq_true rfl)) dX5_rotateAgedFiles_29 ⟨Nat.le_of_ble_eq_true rfl, Nat.le_of_ble_eq_true rfl⟩) hS (fun _ h12 H locs hw hP hS => ?_)
          exact j_32 _ (ih) (v1) _ _ _ _ hw hP hS (lv_sub hl [0, 1] rfl)
  unfold w_X5_rotateAgedFiles at hw
  refine lv_iconst (v := 0) hx hb dX5_rotateAgedFiles_0 (by decide) ?_
  refine lv_istore_n (lv' := [(1, .int (0)), (0, .ref (ad (0)))]) hx hb dX5_rotateAgedFiles_1 rfl hl (by decide) rfl (fun ls hl => ?_)
  obtain ⟨n9, hw⟩ := hw
  exact j_2  n9 (0) _ _ _ _ hw hP hS (lv_sub hl [1, 0] rfl)
set_option maxHeartbeats 4000000 in
set_option maxRecDepth 100000 in
theorem c_X5_passOneSecond (l : Launch) (hl9 : l.stackTraces = false) {B0 : Nat} {ad : Nat → Nat} {D : va_G} {T : Nat → ClassId} (hA : XA B0 ad) {h : xH} {K : Unit → xH → Prop} (hw : w_X5_passOneSecond h K) : XM l yX5_passOneSecond wsX5_passOneSecond ({ frames := 5, cells := 0, slots := 0, locals := 117 } : Room) B0 ad D T h [.ref (ad (0))] xev K 0 0 := by
  unfold XM
  refine Met.ofW (cc := cX5_passOneSecond) (maxL := 1) (ret := none) (by decide) rfl ?_
  intro p e s m args below meth c s₁ B hml hv
  obtain ⟨rfl, hB0, hP, hK, hN⟩ := hv
  have hx := B.exec
  have hb := B.bytes
  have hr := B.returns
  have hts := atoms_spec (ws := wsX5_passOneSecond) B.pre
  have hown : s.vm.findClass RX5 = some m.cls := findClass_of_methodNamed B.named
  have hlocks := B.notSynchronized
  have iX5 : ∀ w ∈ u_ws RX5 TX5 9, w ∈ wsX5_passOneSecond := by decide +kernel
  have f_41 := hts (.fieldLink RX5 41 "LogSpooler" "now" "I") (by decide +kernel)
  have f_48 := hts (.fieldLink RX5 48 "LogSpooler" "tokenTime" "I") (by decide +kernel)
  have hS : va_S (fun q => B0 ≤ q) s.heap s.heap [] := va_S.rf
  have hl := lv_entry ([.ref (ad (0))]) (n := 1) (Nat.le_of_ble_eq_true rfl)
  rw [lg_entry_eq]
  generalize (lg_sl ([.ref (ad (0))]) ++ List.replicate (1 - (lg_sl ([.ref (ad (0))])).length) Slot.unset).toArray = ls at hl ⊢
  have hl : lv_has ls 1 [(0, .ref (ad (0)))] := hl
  have j_33 : ∀ (h : xH) (H : Heap) (locs : List Loc) (ls : Array Slot), w_X5_passOneSecond_33 K h → XP ad D T h H → va_S (fun q => B0 ≤ q) s.heap H locs → lv_has ls 1 [(0, .ref (ad (0)))] → W p l e (headSpec wsX5_passOneSecond ({ frames := 5, cells := 0, slots := 0, locals := 117 } : Room)).room s m ([.ref (ad (0))] : List Value).toArray below meth c H locs 0 0 (MQ below (XQ B0 ad D T xev K) ([.ref (ad (0))] : List Value).toArray s 0 0 (fun q => B0 ≤ q)) (F0 m 33 ls []) := by
    intro h H locs ls hw hP hS hl 
    unfold w_X5_passOneSecond_33 at hw
    refine lv_aload_n hx hb dX5_passOneSecond_33 rfl (lv_at hl 0 rfl) ?_
    refine xg_callv (va_runV (As := []) (rest := []) ⟨hx, hb, hml, hown, hts⟩ (c_X5_tellDueRepeats l hl9 hA hw) (cwV 0 hts gX5_passOneSecond_X5_tellDueRepeats rfl rfl rfl (by decide +kernel) ⟨Nat.le_of_ble_eq_true rfl, Nat.le_of_ble_eq_true rfl⟩) (xg_preV hB0 hP hK hN hS xs0 rfl) rfl rfl hl.1 rfl (lv_room (Nat.le_of_ble_eq_true rfl)) dX5_passOneSecond_34 ⟨Nat.le_of_ble_eq_true rfl, Nat.le_of_ble_eq_true rfl⟩) hS (fun _ h8 H locs hw hP hS => ?_)
    refine lv_aload_n hx hb dX5_passOneSecond_37 rfl (lv_at hl 0 rfl) ?_
    refine xg_callv (va_runV (As := []) (rest := []) ⟨hx, hb, hml, hown, hts⟩ (c_X5_rotateAgedFiles l hl9 hA hw) (cwV 0 hts gX5_passOneSecond_X5_rotateAgedFiles rfl rfl rfl (by decide +kernel) ⟨Nat.le_of_ble_eq_true rfl, Nat.le_of_ble_eq_true rfl⟩) (xg_preV hB0 hP hK hN hS xs0 rfl) rfl rfl hl.1 rfl (lv_room (Nat.le_of_ble_eq_true rfl)) dX5_passOneSecond_38 ⟨Nat.le_of_ble_eq_true rfl, Nat.le_of_ble_eq_true rfl⟩) hS (fun _ h10 H locs hw hP hS => ?_)
    exact xg_vrets hx hb hr hlocks hB0 hP hK hN hS dX5_passOneSecond_41 (by decide) (by decide) hw
  unfold w_X5_passOneSecond at hw
  refine lv_aload_n hx hb dX5_passOneSecond_0 rfl (lv_at hl 0 rfl) ?_
  refine lv_dup hx hb dX5_passOneSecond_1 rfl ?_
  refine xg_get (C := RX5) (TC := TX5) (N := 9) hx hb hts iX5 hown hK hP xs0 rfl 5 (by decide) f_41 (fun _ h9 => h9) rfl dX5_passOneSecond_2 ?_
  refine lv_iconst (v := 1) hx hb dX5_passOneSecond_5 (by decide) ?_
  refine lv_iadd hx hb dX5_passOneSecond_6 ?_
  refine xg_put (C := RX5) (TC := TX5) (N := 9) hx hb hts iX5 tyX5 tyX5_ok nmX5 hown hK hP hA hS xs0 rfl 5 (by decide) f_41 (fun _ h9 => h9) rfl rfl (ty := .int) (by decide +kernel) rfl rfl dX5_passOneSecond_7 (fun H locs h1 eh1 hP hS => ?_)
  have hw := hw h1 eh1
  refine lv_aload_n hx hb dX5_passOneSecond_10 rfl (lv_at hl 0 rfl) ?_
  refine xg_get (C := RX5) (TC := TX5) (N := 9) hx hb hts iX5 hown hK hP xs0 rfl 7 (by decide) f_48 (fun _ h9 => h9) rfl dX5_passOneSecond_11 ?_
  refine lv_if_le (tgt := 33) hx hb dX5_passOneSecond_14 (by decide) (fun c2 => ?_) (fun c2 => ?_)
  · have hw := hw.1 c2
    exact j_33   _ _ _ _ hw hP hS (lv_sub hl [0] rfl)
  · have hw := hw.2 c2
    refine lv_aload_n hx hb dX5_passOneSecond_17 rfl (lv_at hl 0 rfl) ?_
    refine xg_get (C := RX5) (TC := TX5) (N := 9) hx hb hts iX5 hown hK hP xs0 rfl 5 (by decide) f_41 (fun _ h9 => h9) rfl dX5_passOneSecond_18 ?_
    refine lv_aload_n hx hb dX5_passOneSecond_21 rfl (lv_at hl 0 rfl) ?_
    refine xg_get (C := RX5) (TC := TX5) (N := 9) hx hb hts iX5 hown hK hP xs0 rfl 7 (by decide) f_48 (fun _ h9 => h9) rfl dX5_passOneSecond_22 ?_
    obtain ⟨hz3, hw⟩ := hw
    refine lv_irem hx hb dX5_passOneSecond_25 hz3 ?_
    refine lv_if_ne (tgt := 33) hx hb dX5_passOneSecond_26 (by decide) (fun c4 => ?_) (fun c4 => ?_)
    · have hw := hw.2 c4
      exact j_33   _ _ _ _ hw hP hS (lv_sub hl [0] rfl)
    · have hw := hw.1 c4
      refine lv_aload_n hx hb dX5_passOneSecond_29 rfl (lv_at hl 0 rfl) ?_
      refine xg_callv (va_runV (As := []) (rest := []) ⟨hx, hb, hml, hown, hts⟩ (c_X5_giveTokens l hl9 hA hw) (cwV 0 hts gX5_passOneSecond_X5_giveTokens rfl rfl rfl (by decide +kernel) ⟨Nat.le_of_ble_eq_true rfl, Nat.le_of_ble_eq_true rfl⟩) (xg_preV hB0 hP hK hN hS xs0 rfl) rfl rfl hl.1 rfl (lv_room (Nat.le_of_ble_eq_true rfl)) dX5_passOneSecond_30 ⟨Nat.le_of_ble_eq_true rfl, Nat.le_of_ble_eq_true rfl⟩) hS (fun _ h6 H locs hw hP hS => ?_)
      exact j_33   _ _ _ _ hw hP hS (lv_sub hl [0] rfl)
set_option maxHeartbeats 4000000 in
set_option maxRecDepth 100000 in
theorem c_X5_pass (l : Launch) (hl9 : l.stackTraces = false) {B0 : Nat} {ad : Nat → Nat} {D : va_G} {T : Nat → ClassId} (hA : XA B0 ad) (p0 : Int32) {h : xH} {K : Int32 → xH → Prop} (hw : w_X5_pass p0 h K) : XM l yX5_pass wsX5_pass ({ frames := 6, cells := 0, slots := 0, locals := 137 } : Room) B0 ad D T h [.ref (ad (0)), .int (p0)] xei K 0 0 := by
  unfold XM
  refine Met.ofW (cc := cX5_pass) (maxL := 4) (ret := (some .int)) (by decide) rfl ?_
  intro p e s m args below meth c s₁ B hml hv
  obtain ⟨rfl, hB0, hP, hK, hN⟩ := hv
  have hx := B.exec
  have hb := B.bytes
  have hr := B.returns
  have hts := atoms_spec (ws := wsX5_pass) B.pre
  have hown : s.vm.findClass RX5 = some m.cls := findClass_of_methodNamed B.named
  have hlocks := B.notSynchronized
  have hS : va_S (fun q => B0 ≤ q) s.heap s.heap [] := va_S.rf
  have hl := lv_entry ([.ref (ad (0)), .int (p0)]) (n := 4) (Nat.le_of_ble_eq_true rfl)
  rw [lg_entry_eq]
  generalize (lg_sl ([.ref (ad (0)), .int (p0)]) ++ List.replicate (4 - (lg_sl ([.ref (ad (0)), .int (p0)])).length) Slot.unset).toArray = ls at hl ⊢
  have hl : lv_has ls 4 [(0, .ref (ad (0))), (1, .int (p0))] := hl
  have j_27 : ∀ (n : Nat) (v2 : Int32) (v3 : Int32) (h : xH) (H : Heap) (locs : List Loc) (ls : Array Slot), w_X5_pass_27 p0 K n v2 v3 h → XP ad D T h H → va_S (fun q => B0 ≤ q) s.heap H locs → lv_has ls 4 [(0, .ref (ad (0))), (1, .int (p0)), (2, .int (v2)), (3, .int (v3))] → W p l e (headSpec wsX5_pass ({ frames := 6, cells := 0, slots := 0, locals := 137 } : Room)).room s m ([.ref (ad (0)), .int (p0)] : List Value).toArray below meth c H locs 0 0 (MQ below (XQ B0 ad D T xei K) ([.ref (ad (0)), .int (p0)] : List Value).toArray s 0 0 (fun q => B0 ≤ q)) (F0 m 27 ls []) := by
    intro n
    induction n with
    | zero => intro v2 v3 h H locs ls hw; exact hw.elim
    | succ n9 ih =>
      intro v2 v3 h H locs ls hw hP hS hl 
      rw [w_X5_pass_27_s] at hw
      refine lv_iload_n hx hb dX5_pass_27 rfl (lv_at hl 3 rfl) ?_
      refine lv_iload_n hx hb dX5_pass_28 rfl (lv_at hl 1 rfl) ?_
      refine lv_icmp_ge (tgt := 42) hx hb dX5_pass_29 (by decide) (fun c6 => ?_) (fun c6 => ?_)
      · have hw := hw.1 c6
        refine lv_aload_n hx hb dX5_pass_42 rfl (lv_at hl 0 rfl) ?_
        refine xg_calli (va_runV (As := []) (rest := []) ⟨hx, hb, hml, hown, hts⟩ (c_X5_rotationsOfAllFiles l hl9 hA hw) (cwV 0 hts gX5_pass_X5_rotationsOfAllFiles rfl rfl rfl (by decide +kernel) ⟨Nat.le_of_ble_eq_true rfl, Nat.le_of_ble_eq_true rfl⟩) (xg_preV hB0 hP hK hN hS xs0 rfl) rfl rfl hl.1 rfl (lv_room (Nat.le_of_ble_eq_true rfl)) dX5_pass_43 ⟨Nat.le_of_ble_eq_true rfl, Nat.le_of_ble_eq_true rfl⟩) hS (fun r7 h8 H locs hw hP hS => ?_)
        refine lv_iload_n hx hb dX5_pass_46 rfl (lv_at hl 2 rfl) ?_
        refine lv_isub hx hb dX5_pass_47 ?_
        exact xg_irets hx hb hr rfl hlocks hB0 hP hK hN hS dX5_pass_48 (by decide) (by decide) hw
      · have hw := hw.2 c6
        refine lv_aload_n hx hb dX5_pass_32 rfl (lv_at hl 0 rfl) ?_
        refine xg_callv (va_runV (As := []) (rest := []) ⟨hx, hb, hml, hown, hts⟩ (c_X5_passOneSecond l hl9 hA hw) (cwV 0 hts gX5_pass_X5_passOneSecond rfl rfl rfl (by decide +kernel) ⟨Nat.le_of_ble_eq_true rfl, Nat.le_of_ble_eq_true rfl⟩) (xg_preV hB0 hP hK hN hS xs0 rfl) rfl rfl hl.1 rfl (lv_room (Nat.le_of_ble_eq_true rfl)) dX5_pass_33 ⟨Nat.le_of_ble_eq_true rfl, Nat.le_of_ble_eq_true rfl⟩) hS (fun _ h10 H locs hw hP hS => ?_)
        obtain ⟨x11, ex11⟩ : ∃ z : Int32, z = v3 + 1 := ⟨_, rfl⟩
        have hw := hw x11 ex11
        refine lv_iinc (v := x11) (lv' := [(3, .int (x11)), (0, .ref (ad (0))), (1, .int (p0)), (2, .int (v2))]) hx hb dX5_pass_36 hl (k := 3) rfl (by rw [ex11]; rfl) (by decide) rfl (fun ls hl => ?_)
        refine lv_goto (tgt := 27) hx hb dX5_pass_39 (by decide) ?_
        exact ih (v2) (x11) _ _ _ _ hw hP hS (lv_sub hl [1, 2, 3, 0] rfl)
  unfold w_X5_pass at hw
  refine lv_iload_n hx hb dX5_pass_0 rfl (lv_at hl 1 rfl) ?_
  refine lv_iconst (v := 1) hx hb dX5_pass_1 (by decide) ?_
  refine lv_bipush (v := 100) hx hb dX5_pass_2 (by decide) ?_
  refine xg_calli (va_runS (As := [.int (p0), .int (1), .int (100)]) (rest := []) ⟨hx, hb, hml, hown, hts⟩ (c_X5_isWithin l hl9 hA p0 (1 : Int32) (100 : Int32) hw) (va_cwS 3 hts gX5_pass_X5_isWithin rfl rfl rfl (by decide +kernel) ⟨Nat.le_of_ble_eq_true rfl, Nat.le_of_ble_eq_true rfl⟩) (xg_preS hB0 hP hK hN hS) rfl rfl hl.1 rfl (lv_room (Nat.le_of_ble_eq_true rfl)) dX5_pass_4 ⟨Nat.le_of_ble_eq_true rfl, Nat.le_of_ble_eq_true rfl⟩) hS (fun r1 h2 H locs hw hP hS => ?_)
  refine lv_if_ne (tgt := 20) hx hb dX5_pass_7 (by decide) (fun c3 => ?_) (fun c3 => ?_)
  · have hw := hw.2 c3
    refine lv_aload_n hx hb dX5_pass_20 rfl (lv_at hl 0 rfl) ?_
    refine xg_calli (va_runV (As := []) (rest := []) ⟨hx, hb, hml, hown, hts⟩ (c_X5_rotationsOfAllFiles l hl9 hA hw) (cwV 0 hts gX5_pass_X5_rotationsOfAllFiles rfl rfl rfl (by decide +kernel) ⟨Nat.le_of_ble_eq_true rfl, Nat.le_of_ble_eq_true rfl⟩) (xg_preV hB0 hP hK hN hS xs0 rfl) rfl rfl hl.1 rfl (lv_room (Nat.le_of_ble_eq_true rfl)) dX5_pass_21 ⟨Nat.le_of_ble_eq_true rfl, Nat.le_of_ble_eq_true rfl⟩) hS (fun r4 h5 H locs hw hP hS => ?_)
    refine lv_istore_n (lv' := [(2, .int (r4)), (0, .ref (ad (0))), (1, .int (p0))]) hx hb dX5_pass_24 rfl hl (by decide) rfl (fun ls hl => ?_)
    refine lv_iconst (v := 0) hx hb dX5_pass_25 (by decide) ?_
    refine lv_istore_n (lv' := [(3, .int (0)), (2, .int (r4)), (0, .ref (ad (0))), (1, .int (p0))]) hx hb dX5_pass_26 rfl hl (by decide) rfl (fun ls hl => ?_)
    obtain ⟨n9, hw⟩ := hw
    exact j_27  n9 (r4) (0) _ _ _ _ hw hP hS (lv_sub hl [2, 3, 1, 0] rfl)
  · have hw := hw.1 c3
    exact hw.elim
set_option maxHeartbeats 4000000 in
set_option maxRecDepth 100000 in
theorem c_X5_rotate (l : Launch) (hl9 : l.stackTraces = false) {B0 : Nat} {ad : Nat → Nat} {D : va_G} {T : Nat → ClassId} (hA : XA B0 ad) (p0 : Int32) {h : xH} {K : Int32 → xH → Prop} (hw : w_X5_rotate p0 h K) : XM l yX5_rotate wsX5_rotate ({ frames := 1, cells := 0, slots := 0, locals := 21 } : Room) B0 ad D T h [.ref (ad (0)), .int (p0)] xei K 0 0 := by
  unfold XM
  refine Met.ofW (cc := cX5_rotate) (maxL := 3) (ret := (some .int)) (by decide) rfl ?_
  intro p e s m args below meth c s₁ B hml hv
  obtain ⟨rfl, hB0, hP, hK, hN⟩ := hv
  have hx := B.exec
  have hb := B.bytes
  have hr := B.returns
  have hts := atoms_spec (ws := wsX5_rotate) B.pre
  have hown : s.vm.findClass RX5 = some m.cls := findClass_of_methodNamed B.named
  have hlocks := B.notSynchronized
  have iX2 : ∀ w ∈ u_ws RX2 TX2 10, w ∈ wsX5_rotate := by decide +kernel
  have f_175 := hts (.fieldLink RX5 175 "LogSpooler$LogFile" "olderOnes" "I") (by decide +kernel)
  have hS : va_S (fun q => B0 ≤ q) s.heap s.heap [] := va_S.rf
  have hl := lv_entry ([.ref (ad (0)), .int (p0)]) (n := 3) (Nat.le_of_ble_eq_true rfl)
  rw [lg_entry_eq]
  generalize (lg_sl ([.ref (ad (0)), .int (p0)]) ++ List.replicate (3 - (lg_sl ([.ref (ad (0)), .int (p0)])).length) Slot.unset).toArray = ls at hl ⊢
  have hl : lv_has ls 3 [(0, .ref (ad (0))), (1, .int (p0))] := hl
  unfold w_X5_rotate at hw
  refine lv_aload_n hx hb dX5_rotate_0 rfl (lv_at hl 0 rfl) ?_
  refine lv_iload_n hx hb dX5_rotate_1 rfl (lv_at hl 1 rfl) ?_
  refine xg_callr (va_runV (As := [.int (p0)]) (rest := []) ⟨hx, hb, hml, hown, hts⟩ (c_X5_fileAt l hl9 hA p0 hw) (cwV 1 hts gX5_rotate_X5_fileAt rfl rfl rfl (by decide +kernel) ⟨Nat.le_of_ble_eq_true rfl, Nat.le_of_ble_eq_true rfl⟩) (xg_preV hB0 hP hK hN hS xs0 rfl) rfl rfl hl.1 rfl (lv_room (Nat.le_of_ble_eq_true rfl)) dX5_rotate_2 ⟨Nat.le_of_ble_eq_true rfl, Nat.le_of_ble_eq_true rfl⟩) hS (fun r1 h2 H locs hw hP hS => ?_)
  obtain ⟨hk3, hw⟩ := hw
  refine lv_astore_n (lv' := [(2, .ref (ad (r1))), (0, .ref (ad (0))), (1, .int (p0))]) hx hb dX5_rotate_5 rfl hl (by decide) rfl (fun ls hl => ?_)
  refine lv_aload_n hx hb dX5_rotate_6 rfl (lv_at hl 0 rfl) ?_
  refine xg_calli (va_runV (As := []) (rest := []) ⟨hx, hb, hml, hown, hts⟩ (c_X2_isEmpty l hl9 hA r1 hk3 hw) (cwV 0 hts gX5_rotate_X2_isEmpty rfl rfl rfl (by decide +kernel) ⟨Nat.le_of_ble_eq_true rfl, Nat.le_of_ble_eq_true rfl⟩) (xg_preV hB0 hP hK hN hS (xsF hk3) rfl) rfl rfl hl.1 rfl (lv_room (Nat.le_of_ble_eq_true rfl)) dX5_rotate_7 ⟨Nat.le_of_ble_eq_true rfl, Nat.le_of_ble_eq_true rfl⟩) hS (fun r4 h5 H locs hw hP hS => ?_)
  refine lv_if_eq (tgt := 23) hx hb dX5_rotate_10 (by decide) (fun c6 => ?_) (fun c6 => ?_)
  · have hw := hw.1 c6
    refine lv_aload_n hx hb dX5_rotate_23 rfl (lv_at hl 0 rfl) ?_
    refine xg_callv (va_runV (As := []) (rest := []) ⟨hx, hb, hml, hown, hts⟩ (c_X2_turnOver l hl9 hA r1 hk3 hw) (cwV 0 hts gX5_rotate_X2_turnOver rfl rfl rfl (by decide +kernel) ⟨Nat.le_of_ble_eq_true rfl, Nat.le_of_ble_eq_true rfl⟩) (xg_preV hB0 hP hK hN hS (xsF hk3) rfl) rfl rfl hl.1 rfl (lv_room (Nat.le_of_ble_eq_true rfl)) dX5_rotate_24 ⟨Nat.le_of_ble_eq_true rfl, Nat.le_of_ble_eq_true rfl⟩) hS (fun _ h8 H locs hw hP hS => ?_)
    refine lv_aload_n hx hb dX5_rotate_27 rfl (lv_at hl 0 rfl) ?_
    refine xg_get (C := RX2) (TC := TX2) (N := 10) hx hb hts iX2 hown hK hP (xsF hk3) rfl 8 (by decide) f_175 (fun _ h9 => h9) rfl dX5_rotate_28 ?_
    exact xg_irets hx hb hr rfl hlocks hB0 hP hK hN hS dX5_rotate_31 (by decide) (by decide) hw
  · have hw := hw.2 c6
    exact hw.elim
set_option maxHeartbeats 4000000 in
set_option maxRecDepth 100000 in
theorem c_X5_connect (l : Launch) (hl9 : l.stackTraces = false) {B0 : Nat} {ad : Nat → Nat} {D : va_G} {T : Nat → ClassId} (hA : XA B0 ad) {h : xH} {K : Int32 → xH → Prop} (hw : w_X5_connect h K) : XM l yX5_connect wsX5_connect ({ frames := 1, cells := 0, slots := 0, locals := 20 } : Room) B0 ad D T h [.ref (ad (0))] xei K 0 0 := by
  unfold XM
  refine Met.ofW (cc := cX5_connect) (maxL := 1) (ret := (some .int)) (by decide) rfl ?_
  intro p e s m args below meth c s₁ B hml hv
  obtain ⟨rfl, hB0, hP, hK, hN⟩ := hv
  have hx := B.exec
  have hb := B.bytes
  have hr := B.returns
  have hts := atoms_spec (ws := wsX5_connect) B.pre
  have hown : s.vm.findClass RX5 = some m.cls := findClass_of_methodNamed B.named
  have hlocks := B.notSynchronized
  have iX0 : ∀ w ∈ u_ws RX0 TX0 6, w ∈ wsX5_connect := by decide +kernel
  have iX5 : ∀ w ∈ u_ws RX5 TX5 9, w ∈ wsX5_connect := by decide +kernel
  have f_30 := hts (.fieldLink RX5 30 "LogSpooler" "forwarder" "LLogSpooler$Forwarder;") (by decide +kernel)
  have f_178 := hts (.fieldLink RX5 178 "LogSpooler$Forwarder" "isConnected" "Z") (by decide +kernel)
  have hS : va_S (fun q => B0 ≤ q) s.heap s.heap [] := va_S.rf
  have hl := lv_entry ([.ref (ad (0))]) (n := 1) (Nat.le_of_ble_eq_true rfl)
  rw [lg_entry_eq]
  generalize (lg_sl ([.ref (ad (0))]) ++ List.replicate (1 - (lg_sl ([.ref (ad (0))])).length) Slot.unset).toArray = ls at hl ⊢
  have hl : lv_has ls 1 [(0, .ref (ad (0)))] := hl
  unfold w_X5_connect at hw
  refine lv_aload_n hx hb dX5_connect_0 rfl (lv_at hl 0 rfl) ?_
  refine xg_getr (C := RX5) (TC := TX5) (N := 9) hx hb hts iX5 hown hK hP xs0 rfl 3 (by decide) f_30 (fun _ h9 => h9) rfl dX5_connect_1 ?_
  refine xg_get (C := RX0) (TC := TX0) (N := 6) hx hb hts iX0 hown hK hP xs4 rfl 5 (by decide) f_178 (fun _ h9 => h9) rfl dX5_connect_4 ?_
  refine lv_if_eq (tgt := 20) hx hb dX5_connect_7 (by decide) (fun c1 => ?_) (fun c1 => ?_)
  · have hw := hw.1 c1
    refine lv_aload_n hx hb dX5_connect_20 rfl (lv_at hl 0 rfl) ?_
    refine xg_getr (C := RX5) (TC := TX5) (N := 9) hx hb hts iX5 hown hK hP xs0 rfl 3 (by decide) f_30 (fun _ h9 => h9) rfl dX5_connect_21 ?_
    refine lv_iconst (v := 1) hx hb dX5_connect_24 (by decide) ?_
    refine xg_put (C := RX0) (TC := TX0) (N := 6) hx hb hts iX0 tyX0 tyX0_ok nmX0 hown hK hP hA hS xs4 rfl 5 (by decide) f_178 (fun _ h9 => h9) rfl rfl (ty := .boolean) (by decide +kernel) rfl rfl dX5_connect_25 (fun H locs h2 eh2 hP hS => ?_)
    have hw := hw h2 eh2
    refine lv_aload_n hx hb dX5_connect_28 rfl (lv_at hl 0 rfl) ?_
    refine xg_getr (C := RX5) (TC := TX5) (N := 9) hx hb hts iX5 hown hK hP xs0 rfl 3 (by decide) f_30 (fun _ h9 => h9) rfl dX5_connect_29 ?_
    refine xg_calli (va_runV (As := []) (rest := []) ⟨hx, hb, hml, hown, hts⟩ (c_X0_waiting l hl9 hA hw) (cwV 0 hts gX5_connect_X0_waiting rfl rfl rfl (by decide +kernel) ⟨Nat.le_of_ble_eq_true rfl, Nat.le_of_ble_eq_true rfl⟩) (xg_preV hB0 hP hK hN hS xs4 rfl) rfl rfl hl.1 rfl (lv_room (Nat.le_of_ble_eq_true rfl)) dX5_connect_32 ⟨Nat.le_of_ble_eq_true rfl, Nat.le_of_ble_eq_true rfl⟩) hS (fun r3 h4 H locs hw hP hS => ?_)
    exact xg_irets hx hb hr rfl hlocks hB0 hP hK hN hS dX5_connect_35 (by decide) (by decide) hw
  · have hw := hw.2 c1
    exact hw.elim
set_option maxHeartbeats 4000000 in
set_option maxRecDepth 100000 in
theorem c_X5_disconnect (l : Launch) (hl9 : l.stackTraces = false) {B0 : Nat} {ad : Nat → Nat} {D : va_G} {T : Nat → ClassId} (hA : XA B0 ad) {h : xH} {K : Int32 → xH → Prop} (hw : w_X5_disconnect h K) : XM l yX5_disconnect wsX5_disconnect ({ frames := 1, cells := 0, slots := 0, locals := 20 } : Room) B0 ad D T h [.ref (ad (0))] xei K 0 0 := by
  unfold XM
  refine Met.ofW (cc := cX5_disconnect) (maxL := 2) (ret := (some .int)) (by decide) rfl ?_
  intro p e s m args below meth c s₁ B hml hv
  obtain ⟨rfl, hB0, hP, hK, hN⟩ := hv
  have hx := B.exec
  have hb := B.bytes
  have hr := B.returns
  have hts := atoms_spec (ws := wsX5_disconnect) B.pre
  have hown : s.vm.findClass RX5 = some m.cls := findClass_of_methodNamed B.named
  have hlocks := B.notSynchronized
  have iX0 : ∀ w ∈ u_ws RX0 TX0 6, w ∈ wsX5_disconnect := by decide +kernel
  have iX5 : ∀ w ∈ u_ws RX5 TX5 9, w ∈ wsX5_disconnect := by decide +kernel
  have f_30 := hts (.fieldLink RX5 30 "LogSpooler" "forwarder" "LLogSpooler$Forwarder;") (by decide +kernel)
  have f_178 := hts (.fieldLink RX5 178 "LogSpooler$Forwarder" "isConnected" "Z") (by decide +kernel)
  have hS : va_S (fun q => B0 ≤ q) s.heap s.heap [] := va_S.rf
  have hl := lv_entry ([.ref (ad (0))]) (n := 2) (Nat.le_of_ble_eq_true rfl)
  rw [lg_entry_eq]
  generalize (lg_sl ([.ref (ad (0))]) ++ List.replicate (2 - (lg_sl ([.ref (ad (0))])).length) Slot.unset).toArray = ls at hl ⊢
  have hl : lv_has ls 2 [(0, .ref (ad (0)))] := hl
  unfold w_X5_disconnect at hw
  refine lv_aload_n hx hb dX5_disconnect_0 rfl (lv_at hl 0 rfl) ?_
  refine xg_getr (C := RX5) (TC := TX5) (N := 9) hx hb hts iX5 hown hK hP xs0 rfl 3 (by decide) f_30 (fun _ h9 => h9) rfl dX5_disconnect_1 ?_
  refine xg_get (C := RX0) (TC := TX0) (N := 6) hx hb hts iX0 hown hK hP xs4 rfl 5 (by decide) f_178 (fun _ h9 => h9) rfl dX5_disconnect_4 ?_
  refine lv_if_ne (tgt := 20) hx hb dX5_disconnect_7 (by decide) (fun c1 => ?_) (fun c1 => ?_)
  · have hw := hw.2 c1
    refine lv_aload_n hx hb dX5_disconnect_20 rfl (lv_at hl 0 rfl) ?_
    refine xg_getr (C := RX5) (TC := TX5) (N := 9) hx hb hts iX5 hown hK hP xs0 rfl 3 (by decide) f_30 (fun _ h9 => h9) rfl dX5_disconnect_21 ?_
    refine xg_calli (va_runV (As := []) (rest := []) ⟨hx, hb, hml, hown, hts⟩ (c_X0_flying l hl9 hA hw) (cwV 0 hts gX5_disconnect_X0_flying rfl rfl rfl (by decide +kernel) ⟨Nat.le_of_ble_eq_true rfl, Nat.le_of_ble_eq_true rfl⟩) (xg_preV hB0 hP hK hN hS xs4 rfl) rfl rfl hl.1 rfl (lv_room (Nat.le_of_ble_eq_true rfl)) dX5_disconnect_24 ⟨Nat.le_of_ble_eq_true rfl, Nat.le_of_ble_eq_true rfl⟩) hS (fun r2 h3 H locs hw hP hS => ?_)
    refine lv_istore_n (lv' := [(1, .int (r2)), (0, .ref (ad (0)))]) hx hb dX5_disconnect_27 rfl hl (by decide) rfl (fun ls hl => ?_)
    refine lv_aload_n hx hb dX5_disconnect_28 rfl (lv_at hl 1 rfl) ?_
    refine xg_getr (C := RX5) (TC := TX5) (N := 9) hx hb hts iX5 hown hK hP xs0 rfl 3 (by decide) f_30 (fun _ h9 => h9) rfl dX5_disconnect_29 ?_
    refine xg_callv (va_runV (As := []) (rest := []) ⟨hx, hb, hml, hown, hts⟩ (c_X0_loseConnection l hl9 hA hw) (cwV 0 hts gX5_disconnect_X0_loseConnection rfl rfl rfl (by decide +kernel) ⟨Nat.le_of_ble_eq_true rfl, Nat.le_of_ble_eq_true rfl⟩) (xg_preV hB0 hP hK hN hS xs4 rfl) rfl rfl hl.1 rfl (lv_room (Nat.le_of_ble_eq_true rfl)) dX5_disconnect_32 ⟨Nat.le_of_ble_eq_true rfl, Nat.le_of_ble_eq_true rfl⟩) hS (fun _ h5 H locs hw hP hS => ?_)
    refine lv_iload_n hx hb dX5_disconnect_35 rfl (lv_at hl 0 rfl) ?_
    exact xg_irets hx hb hr rfl hlocks hB0 hP hK hN hS dX5_disconnect_36 (by decide) (by decide) hw
  · have hw := hw.1 c1
    exact hw.elim
set_option maxHeartbeats 4000000 in
set_option maxRecDepth 100000 in
theorem c_X5_send (l : Launch) (hl9 : l.stackTraces = false) {B0 : Nat} {ad : Nat → Nat} {D : va_G} {T : Nat → ClassId} (hA : XA B0 ad) {h : xH} {K : Int32 → xH → Prop} (hw : w_X5_send h K) : XM l yX5_send wsX5_send ({ frames := 2, cells := 0, slots := 0, locals := 42 } : Room) B0 ad D T h [.ref (ad (0))] xei K 0 0 := by
  unfold XM
  refine Met.ofW (cc := cX5_send) (maxL := 1) (ret := (some .int)) (by decide) rfl ?_
  intro p e s m args below meth c s₁ B hml hv
  obtain ⟨rfl, hB0, hP, hK, hN⟩ := hv
  have hx := B.exec
  have hb := B.bytes
  have hr := B.returns
  have hts := atoms_spec (ws := wsX5_send) B.pre
  have hown : s.vm.findClass RX5 = some m.cls := findClass_of_methodNamed B.named
  have hlocks := B.notSynchronized
  have iX5 : ∀ w ∈ u_ws RX5 TX5 9, w ∈ wsX5_send := by decide +kernel
  have f_30 := hts (.fieldLink RX5 30 "LogSpooler" "forwarder" "LLogSpooler$Forwarder;") (by decide +kernel)
  have hS : va_S (fun q => B0 ≤ q) s.heap s.heap [] := va_S.rf
  have hl := lv_entry ([.ref (ad (0))]) (n := 1) (Nat.le_of_ble_eq_true rfl)
  rw [lg_entry_eq]
  generalize (lg_sl ([.ref (ad (0))]) ++ List.replicate (1 - (lg_sl ([.ref (ad (0))])).length) Slot.unset).toArray = ls at hl ⊢
  have hl : lv_has ls 1 [(0, .ref (ad (0)))] := hl
  unfold w_X5_send at hw
  refine lv_aload_n hx hb dX5_send_0 rfl (lv_at hl 0 rfl) ?_
  refine xg_getr (C := RX5) (TC := TX5) (N := 9) hx hb hts iX5 hown hK hP xs0 rfl 3 (by decide) f_30 (fun _ h9 => h9) rfl dX5_send_1 ?_
  refine xg_calli (va_runV (As := []) (rest := []) ⟨hx, hb, hml, hown, hts⟩ (c_X0_canSend l hl9 hA hw) (cwV 0 hts gX5_send_X0_canSend rfl rfl rfl (by decide +kernel) ⟨Nat.le_of_ble_eq_true rfl, Nat.le_of_ble_eq_true rfl⟩) (xg_preV hB0 hP hK hN hS xs4 rfl) rfl rfl hl.1 rfl (lv_room (Nat.le_of_ble_eq_true rfl)) dX5_send_4 ⟨Nat.le_of_ble_eq_true rfl, Nat.le_of_ble_eq_true rfl⟩) hS (fun r1 h2 H locs hw hP hS => ?_)
  refine lv_if_ne (tgt := 20) hx hb dX5_send_7 (by decide) (fun c3 => ?_) (fun c3 => ?_)
  · have hw := hw.2 c3
    refine lv_aload_n hx hb dX5_send_20 rfl (lv_at hl 0 rfl) ?_
    refine xg_getr (C := RX5) (TC := TX5) (N := 9) hx hb hts iX5 hown hK hP xs0 rfl 3 (by decide) f_30 (fun _ h9 => h9) rfl dX5_send_21 ?_
    refine xg_calli (va_runV (As := []) (rest := []) ⟨hx, hb, hml, hown, hts⟩ (c_X0_sendFirst l hl9 hA hw) (cwV 0 hts gX5_send_X0_sendFirst rfl rfl rfl (by decide +kernel) ⟨Nat.le_of_ble_eq_true rfl, Nat.le_of_ble_eq_true rfl⟩) (xg_preV hB0 hP hK hN hS xs4 rfl) rfl rfl hl.1 rfl (lv_room (Nat.le_of_ble_eq_true rfl)) dX5_send_24 ⟨Nat.le_of_ble_eq_true rfl, Nat.le_of_ble_eq_true rfl⟩) hS (fun r4 h5 H locs hw hP hS => ?_)
    exact xg_irets hx hb hr rfl hlocks hB0 hP hK hN hS dX5_send_27 (by decide) (by decide) hw
  · have hw := hw.1 c3
    exact hw.elim
set_option maxHeartbeats 4000000 in
set_option maxRecDepth 100000 in
theorem c_X5_acknowledge (l : Launch) (hl9 : l.stackTraces = false) {B0 : Nat} {ad : Nat → Nat} {D : va_G} {T : Nat → ClassId} (hA : XA B0 ad) {h : xH} {K : Int32 → xH → Prop} (hw : w_X5_acknowledge h K) : XM l yX5_acknowledge wsX5_acknowledge ({ frames := 2, cells := 0, slots := 0, locals := 42 } : Room) B0 ad D T h [.ref (ad (0))] xei K 0 0 := by
  unfold XM
  refine Met.ofW (cc := cX5_acknowledge) (maxL := 1) (ret := (some .int)) (by decide) rfl ?_
  intro p e s m args below meth c s₁ B hml hv
  obtain ⟨rfl, hB0, hP, hK, hN⟩ := hv
  have hx := B.exec
  have hb := B.bytes
  have hr := B.returns
  have hts := atoms_spec (ws := wsX5_acknowledge) B.pre
  have hown : s.vm.findClass RX5 = some m.cls := findClass_of_methodNamed B.named
  have hlocks := B.notSynchronized
  have iX5 : ∀ w ∈ u_ws RX5 TX5 9, w ∈ wsX5_acknowledge := by decide +kernel
  have f_30 := hts (.fieldLink RX5 30 "LogSpooler" "forwarder" "LLogSpooler$Forwarder;") (by decide +kernel)
  have hS : va_S (fun q => B0 ≤ q) s.heap s.heap [] := va_S.rf
  have hl := lv_entry ([.ref (ad (0))]) (n := 1) (Nat.le_of_ble_eq_true rfl)
  rw [lg_entry_eq]
  generalize (lg_sl ([.ref (ad (0))]) ++ List.replicate (1 - (lg_sl ([.ref (ad (0))])).length) Slot.unset).toArray = ls at hl ⊢
  have hl : lv_has ls 1 [(0, .ref (ad (0)))] := hl
  unfold w_X5_acknowledge at hw
  refine lv_aload_n hx hb dX5_acknowledge_0 rfl (lv_at hl 0 rfl) ?_
  refine xg_getr (C := RX5) (TC := TX5) (N := 9) hx hb hts iX5 hown hK hP xs0 rfl 3 (by decide) f_30 (fun _ h9 => h9) rfl dX5_acknowledge_1 ?_
  refine xg_calli (va_runV (As := []) (rest := []) ⟨hx, hb, hml, hown, hts⟩ (c_X0_flying l hl9 hA hw) (cwV 0 hts gX5_acknowledge_X0_flying rfl rfl rfl (by decide +kernel) ⟨Nat.le_of_ble_eq_true rfl, Nat.le_of_ble_eq_true rfl⟩) (xg_preV hB0 hP hK hN hS xs4 rfl) rfl rfl hl.1 rfl (lv_room (Nat.le_of_ble_eq_true rfl)) dX5_acknowledge_4 ⟨Nat.le_of_ble_eq_true rfl, Nat.le_of_ble_eq_true rfl⟩) hS (fun r1 h2 H locs hw hP hS => ?_)
  refine lv_if_ne (tgt := 20) hx hb dX5_acknowledge_7 (by decide) (fun c3 => ?_) (fun c3 => ?_)
  · have hw := hw.2 c3
    refine lv_aload_n hx hb dX5_acknowledge_20 rfl (lv_at hl 0 rfl) ?_
    refine xg_getr (C := RX5) (TC := TX5) (N := 9) hx hb hts iX5 hown hK hP xs0 rfl 3 (by decide) f_30 (fun _ h9 => h9) rfl dX5_acknowledge_21 ?_
    refine xg_calli (va_runV (As := []) (rest := []) ⟨hx, hb, hml, hown, hts⟩ (c_X0_acknowledgeFirst l hl9 hA hw) (cwV 0 hts gX5_acknowledge_X0_acknowledgeFirst rfl rfl rfl (by decide +kernel) ⟨Nat.le_of_ble_eq_true rfl, Nat.le_of_ble_eq_true rfl⟩) (xg_preV hB0 hP hK hN hS xs4 rfl) rfl rfl hl.1 rfl (lv_room (Nat.le_of_ble_eq_true rfl)) dX5_acknowledge_24 ⟨Nat.le_of_ble_eq_true rfl, Nat.le_of_ble_eq_true rfl⟩) hS (fun r4 h5 H locs hw hP hS => ?_)
    exact xg_irets hx hb hr rfl hlocks hB0 hP hK hN hS dX5_acknowledge_27 (by decide) (by decide) hw
  · have hw := hw.1 c3
    exact hw.elim
set_option maxHeartbeats 4000000 in
set_option maxRecDepth 100000 in
theorem c_X5_time (l : Launch) (hl9 : l.stackTraces = false) {B0 : Nat} {ad : Nat → Nat} {D : va_G} {T : Nat → ClassId} (hA : XA B0 ad) {h : xH} {K : Int32 → xH → Prop} (hw : w_X5_time h K) : XM l yX5_time wsX5_time ({ frames := 0, cells := 0, slots := 0, locals := 0 } : Room) B0 ad D T h [.ref (ad (0))] xei K 0 0 := by
  unfold XM
  refine Met.ofW (cc := cX5_time) (maxL := 1) (ret := (some .int)) (by decide) rfl ?_
  intro p e s m args below meth c s₁ B hml hv
  obtain ⟨rfl, hB0, hP, hK, hN⟩ := hv
  have hx := B.exec
  have hb := B.bytes
  have hr := B.returns
  have hts := atoms_spec (ws := wsX5_time) B.pre
  have hown : s.vm.findClass RX5 = some m.cls := findClass_of_methodNamed B.named
  have hlocks := B.notSynchronized
  have iX5 : ∀ w ∈ u_ws RX5 TX5 9, w ∈ wsX5_time := by decide +kernel
  have f_41 := hts (.fieldLink RX5 41 "LogSpooler" "now" "I") (by decide +kernel)
  have hS : va_S (fun q => B0 ≤ q) s.heap s.heap [] := va_S.rf
  have hl := lv_entry ([.ref (ad (0))]) (n := 1) (Nat.le_of_ble_eq_true rfl)
  rw [lg_entry_eq]
  generalize (lg_sl ([.ref (ad (0))]) ++ List.replicate (1 - (lg_sl ([.ref (ad (0))])).length) Slot.unset).toArray = ls at hl ⊢
  have hl : lv_has ls 1 [(0, .ref (ad (0)))] := hl
  unfold w_X5_time at hw
  refine lv_aload_n hx hb dX5_time_0 rfl (lv_at hl 0 rfl) ?_
  refine xg_get (C := RX5) (TC := TX5) (N := 9) hx hb hts iX5 hown hK hP xs0 rfl 5 (by decide) f_41 (fun _ h9 => h9) rfl dX5_time_1 ?_
  exact xg_irets hx hb hr rfl hlocks hB0 hP hK hN hS dX5_time_4 (by decide) (by decide) hw
set_option maxHeartbeats 4000000 in
set_option maxRecDepth 100000 in
theorem c_X5_tokens (l : Launch) (hl9 : l.stackTraces = false) {B0 : Nat} {ad : Nat → Nat} {D : va_G} {T : Nat → ClassId} (hA : XA B0 ad) (p0 : Int32) {h : xH} {K : Int32 → xH → Prop} (hw : w_X5_tokens p0 h K) : XM l yX5_tokens wsX5_tokens ({ frames := 1, cells := 0, slots := 0, locals := 21 } : Room) B0 ad D T h [.ref (ad (0)), .int (p0)] xei K 0 0 := by
  unfold XM
  refine Met.ofW (cc := cX5_tokens) (maxL := 2) (ret := (some .int)) (by decide) rfl ?_
  intro p e s m args below meth c s₁ B hml hv
  obtain ⟨rfl, hB0, hP, hK, hN⟩ := hv
  have hx := B.exec
  have hb := B.bytes
  have hr := B.returns
  have hts := atoms_spec (ws := wsX5_tokens) B.pre
  have hown : s.vm.findClass RX5 = some m.cls := findClass_of_methodNamed B.named
  have hlocks := B.notSynchronized
  have iX4 : ∀ w ∈ u_ws RX4 TX4 9, w ∈ wsX5_tokens := by decide +kernel
  have f_142 := hts (.fieldLink RX5 142 "LogSpooler$Sender" "tokensLeft" "I") (by decide +kernel)
  have hS : va_S (fun q => B0 ≤ q) s.heap s.heap [] := va_S.rf
  have hl := lv_entry ([.ref (ad (0)), .int (p0)]) (n := 2) (Nat.le_of_ble_eq_true rfl)
  rw [lg_entry_eq]
  generalize (lg_sl ([.ref (ad (0)), .int (p0)]) ++ List.replicate (2 - (lg_sl ([.ref (ad (0)), .int (p0)])).length) Slot.unset).toArray = ls at hl ⊢
  have hl : lv_has ls 2 [(0, .ref (ad (0))), (1, .int (p0))] := hl
  unfold w_X5_tokens at hw
  refine lv_aload_n hx hb dX5_tokens_0 rfl (lv_at hl 0 rfl) ?_
  refine lv_iload_n hx hb dX5_tokens_1 rfl (lv_at hl 1 rfl) ?_
  refine xg_callr (va_runV (As := [.int (p0)]) (rest := []) ⟨hx, hb, hml, hown, hts⟩ (c_X5_senderAt l hl9 hA p0 hw) (cwV 1 hts gX5_tokens_X5_senderAt rfl rfl rfl (by decide +kernel) ⟨Nat.le_of_ble_eq_true rfl, Nat.le_of_ble_eq_true rfl⟩) (xg_preV hB0 hP hK hN hS xs0 rfl) rfl rfl hl.1 rfl (lv_room (Nat.le_of_ble_eq_true rfl)) dX5_tokens_2 ⟨Nat.le_of_ble_eq_true rfl, Nat.le_of_ble_eq_true rfl⟩) hS (fun r1 h2 H locs hw hP hS => ?_)
  obtain ⟨hk3, hw⟩ := hw
  refine xg_get (C := RX4) (TC := TX4) (N := 9) hx hb hts iX4 hown hK hP (xsS hk3) rfl 1 (by decide) f_142 (fun _ h9 => h9) rfl dX5_tokens_5 ?_
  exact xg_irets hx hb hr rfl hlocks hB0 hP hK hN hS dX5_tokens_8 (by decide) (by decide) hw
set_option maxHeartbeats 4000000 in
set_option maxRecDepth 100000 in
theorem c_X5_repeats (l : Launch) (hl9 : l.stackTraces = false) {B0 : Nat} {ad : Nat → Nat} {D : va_G} {T : Nat → ClassId} (hA : XA B0 ad) (p0 : Int32) {h : xH} {K : Int32 → xH → Prop} (hw : w_X5_repeats p0 h K) : XM l yX5_repeats wsX5_repeats ({ frames := 1, cells := 0, slots := 0, locals := 21 } : Room) B0 ad D T h [.ref (ad (0)), .int (p0)] xei K 0 0 := by
  unfold XM
  refine Met.ofW (cc := cX5_repeats) (maxL := 2) (ret := (some .int)) (by decide) rfl ?_
  intro p e s m args below meth c s₁ B hml hv
  obtain ⟨rfl, hB0, hP, hK, hN⟩ := hv
  have hx := B.exec
  have hb := B.bytes
  have hr := B.returns
  have hts := atoms_spec (ws := wsX5_repeats) B.pre
  have hown : s.vm.findClass RX5 = some m.cls := findClass_of_methodNamed B.named
  have hlocks := B.notSynchronized
  have iX4 : ∀ w ∈ u_ws RX4 TX4 9, w ∈ wsX5_repeats := by decide +kernel
  have f_207 := hts (.fieldLink RX5 207 "LogSpooler$Sender" "untoldRepeats" "I") (by decide +kernel)
  have hS : va_S (fun q => B0 ≤ q) s.heap s.heap [] := va_S.rf
  have hl := lv_entry ([.ref (ad (0)), .int (p0)]) (n := 2) (Nat.le_of_ble_eq_true rfl)
  rw [lg_entry_eq]
  generalize (lg_sl ([.ref (ad (0)), .int (p0)]) ++ List.replicate (2 - (lg_sl ([.ref (ad (0)), .int (p0)])).length) Slot.unset).toArray = ls at hl ⊢
  have hl : lv_has ls 2 [(0, .ref (ad (0))), (1, .int (p0))] := hl
  unfold w_X5_repeats at hw
  refine lv_aload_n hx hb dX5_repeats_0 rfl (lv_at hl 0 rfl) ?_
  refine lv_iload_n hx hb dX5_repeats_1 rfl (lv_at hl 1 rfl) ?_
  refine xg_callr (va_runV (As := [.int (p0)]) (rest := []) ⟨hx, hb, hml, hown, hts⟩ (c_X5_senderAt l hl9 hA p0 hw) (cwV 1 hts gX5_repeats_X5_senderAt rfl rfl rfl (by decide +kernel) ⟨Nat.le_of_ble_eq_true rfl, Nat.le_of_ble_eq_true rfl⟩) (xg_preV hB0 hP hK hN hS xs0 rfl) rfl rfl hl.1 rfl (lv_room (Nat.le_of_ble_eq_true rfl)) dX5_repeats_2 ⟨Nat.le_of_ble_eq_true rfl, Nat.le_of_ble_eq_true rfl⟩) hS (fun r1 h2 H locs hw hP hS => ?_)
  obtain ⟨hk3, hw⟩ := hw
  refine xg_get (C := RX4) (TC := TX4) (N := 9) hx hb hts iX4 hown hK hP (xsS hk3) rfl 2 (by decide) f_207 (fun _ h9 => h9) rfl dX5_repeats_5 ?_
  exact xg_irets hx hb hr rfl hlocks hB0 hP hK hN hS dX5_repeats_8 (by decide) (by decide) hw
set_option maxHeartbeats 4000000 in
set_option maxRecDepth 100000 in
theorem c_X5_drops (l : Launch) (hl9 : l.stackTraces = false) {B0 : Nat} {ad : Nat → Nat} {D : va_G} {T : Nat → ClassId} (hA : XA B0 ad) (p0 : Int32) {h : xH} {K : Int32 → xH → Prop} (hw : w_X5_drops p0 h K) : XM l yX5_drops wsX5_drops ({ frames := 1, cells := 0, slots := 0, locals := 21 } : Room) B0 ad D T h [.ref (ad (0)), .int (p0)] xei K 0 0 := by
  unfold XM
  refine Met.ofW (cc := cX5_drops) (maxL := 2) (ret := (some .int)) (by decide) rfl ?_
  intro p e s m args below meth c s₁ B hml hv
  obtain ⟨rfl, hB0, hP, hK, hN⟩ := hv
  have hx := B.exec
  have hb := B.bytes
  have hr := B.returns
  have hts := atoms_spec (ws := wsX5_drops) B.pre
  have hown : s.vm.findClass RX5 = some m.cls := findClass_of_methodNamed B.named
  have hlocks := B.notSynchronized
  have iX4 : ∀ w ∈ u_ws RX4 TX4 9, w ∈ wsX5_drops := by decide +kernel
  have f_145 := hts (.fieldLink RX5 145 "LogSpooler$Sender" "untoldDrops" "I") (by decide +kernel)
  have hS : va_S (fun q => B0 ≤ q) s.heap s.heap [] := va_S.rf
  have hl := lv_entry ([.ref (ad (0)), .int (p0)]) (n := 2) (Nat.le_of_ble_eq_true rfl)
  rw [lg_entry_eq]
  generalize (lg_sl ([.ref (ad (0)), .int (p0)]) ++ List.replicate (2 - (lg_sl ([.ref (ad (0)), .int (p0)])).length) Slot.unset).toArray = ls at hl ⊢
  have hl : lv_has ls 2 [(0, .ref (ad (0))), (1, .int (p0))] := hl
  unfold w_X5_drops at hw
  refine lv_aload_n hx hb dX5_drops_0 rfl (lv_at hl 0 rfl) ?_
  refine lv_iload_n hx hb dX5_drops_1 rfl (lv_at hl 1 rfl) ?_
  refine xg_callr (va_runV (As := [.int (p0)]) (rest := []) ⟨hx, hb, hml, hown, hts⟩ (c_X5_senderAt l hl9 hA p0 hw) (cwV 1 hts gX5_drops_X5_senderAt rfl rfl rfl (by decide +kernel) ⟨Nat.le_of_ble_eq_true rfl, Nat.le_of_ble_eq_true rfl⟩) (xg_preV hB0 hP hK hN hS xs0 rfl) rfl rfl hl.1 rfl (lv_room (Nat.le_of_ble_eq_true rfl)) dX5_drops_2 ⟨Nat.le_of_ble_eq_true rfl, Nat.le_of_ble_eq_true rfl⟩) hS (fun r1 h2 H locs hw hP hS => ?_)
  obtain ⟨hk3, hw⟩ := hw
  refine xg_get (C := RX4) (TC := TX4) (N := 9) hx hb hts iX4 hown hK hP (xsS hk3) rfl 4 (by decide) f_145 (fun _ h9 => h9) rfl dX5_drops_5 ?_
  exact xg_irets hx hb hr rfl hlocks hB0 hP hK hN hS dX5_drops_8 (by decide) (by decide) hw
set_option maxHeartbeats 4000000 in
set_option maxRecDepth 100000 in
theorem c_X5_size (l : Launch) (hl9 : l.stackTraces = false) {B0 : Nat} {ad : Nat → Nat} {D : va_G} {T : Nat → ClassId} (hA : XA B0 ad) (p0 : Int32) {h : xH} {K : Int32 → xH → Prop} (hw : w_X5_size p0 h K) : XM l yX5_size wsX5_size ({ frames := 1, cells := 0, slots := 0, locals := 21 } : Room) B0 ad D T h [.ref (ad (0)), .int (p0)] xei K 0 0 := by
  unfold XM
  refine Met.ofW (cc := cX5_size) (maxL := 2) (ret := (some .int)) (by decide) rfl ?_
  intro p e s m args below meth c s₁ B hml hv
  obtain ⟨rfl, hB0, hP, hK, hN⟩ := hv
  have hx := B.exec
  have hb := B.bytes
  have hr := B.returns
  have hts := atoms_spec (ws := wsX5_size) B.pre
  have hown : s.vm.findClass RX5 = some m.cls := findClass_of_methodNamed B.named
  have hlocks := B.notSynchronized
  have iX2 : ∀ w ∈ u_ws RX2 TX2 10, w ∈ wsX5_size := by decide +kernel
  have f_109 := hts (.fieldLink RX5 109 "LogSpooler$LogFile" "sumOfLengths" "I") (by decide +kernel)
  have hS : va_S (fun q => B0 ≤ q) s.heap s.heap [] := va_S.rf
  have hl := lv_entry ([.ref (ad (0)), .int (p0)]) (n := 2) (Nat.le_of_ble_eq_true rfl)
  rw [lg_entry_eq]
  generalize (lg_sl ([.ref (ad (0)), .int (p0)]) ++ List.replicate (2 - (lg_sl ([.ref (ad (0)), .int (p0)])).length) Slot.unset).toArray = ls at hl ⊢
  have hl : lv_has ls 2 [(0, .ref (ad (0))), (1, .int (p0))] := hl
  unfold w_X5_size at hw
  refine lv_aload_n hx hb dX5_size_0 rfl (lv_at hl 0 rfl) ?_
  refine lv_iload_n hx hb dX5_size_1 rfl (lv_at hl 1 rfl) ?_
  refine xg_callr (va_runV (As := [.int (p0)]) (rest := []) ⟨hx, hb, hml, hown, hts⟩ (c_X5_fileAt l hl9 hA p0 hw) (cwV 1 hts gX5_size_X5_fileAt rfl rfl rfl (by decide +kernel) ⟨Nat.le_of_ble_eq_true rfl, Nat.le_of_ble_eq_true rfl⟩) (xg_preV hB0 hP hK hN hS xs0 rfl) rfl rfl hl.1 rfl (lv_room (Nat.le_of_ble_eq_true rfl)) dX5_size_2 ⟨Nat.le_of_ble_eq_true rfl, Nat.le_of_ble_eq_true rfl⟩) hS (fun r1 h2 H locs hw hP hS => ?_)
  obtain ⟨hk3, hw⟩ := hw
  refine xg_get (C := RX2) (TC := TX2) (N := 10) hx hb hts iX2 hown hK hP (xsF hk3) rfl 7 (by decide) f_109 (fun _ h9 => h9) rfl dX5_size_5 ?_
  exact xg_irets hx hb hr rfl hlocks hB0 hP hK hN hS dX5_size_8 (by decide) (by decide) hw
set_option maxHeartbeats 4000000 in
set_option maxRecDepth 100000 in
theorem c_X5_lines (l : Launch) (hl9 : l.stackTraces = false) {B0 : Nat} {ad : Nat → Nat} {D : va_G} {T : Nat → ClassId} (hA : XA B0 ad) (p0 : Int32) (p1 : Int32) {h : xH} {K : Int32 → xH → Prop} (hw : w_X5_lines p0 p1 h K) : XM l yX5_lines wsX5_lines ({ frames := 2, cells := 0, slots := 0, locals := 44 } : Room) B0 ad D T h [.ref (ad (0)), .int (p0), .int (p1)] xei K 0 0 := by
  unfold XM
  refine Met.ofW (cc := cX5_lines) (maxL := 4) (ret := (some .int)) (by decide) rfl ?_
  intro p e s m args below meth c s₁ B hml hv
  obtain ⟨rfl, hB0, hP, hK, hN⟩ := hv
  have hx := B.exec
  have hb := B.bytes
  have hr := B.returns
  have hts := atoms_spec (ws := wsX5_lines) B.pre
  have hown : s.vm.findClass RX5 = some m.cls := findClass_of_methodNamed B.named
  have hlocks := B.notSynchronized
  have hS : va_S (fun q => B0 ≤ q) s.heap s.heap [] := va_S.rf
  have hl := lv_entry ([.ref (ad (0)), .int (p0), .int (p1)]) (n := 4) (Nat.le_of_ble_eq_true rfl)
  rw [lg_entry_eq]
  generalize (lg_sl ([.ref (ad (0)), .int (p0), .int (p1)]) ++ List.replicate (4 - (lg_sl ([.ref (ad (0)), .int (p0), .int (p1)])).length) Slot.unset).toArray = ls at hl ⊢
  have hl : lv_has ls 4 [(0, .ref (ad (0))), (1, .int (p0)), (2, .int (p1))] := hl
  unfold w_X5_lines at hw
  refine lv_aload_n hx hb dX5_lines_0 rfl (lv_at hl 0 rfl) ?_
  refine lv_iload_n hx hb dX5_lines_1 rfl (lv_at hl 1 rfl) ?_
  refine xg_callr (va_runV (As := [.int (p0)]) (rest := []) ⟨hx, hb, hml, hown, hts⟩ (c_X5_fileAt l hl9 hA p0 hw) (cwV 1 hts gX5_lines_X5_fileAt rfl rfl rfl (by decide +kernel) ⟨Nat.le_of_ble_eq_true rfl, Nat.le_of_ble_eq_true rfl⟩) (xg_preV hB0 hP hK hN hS xs0 rfl) rfl rfl hl.1 rfl (lv_room (Nat.le_of_ble_eq_true rfl)) dX5_lines_2 ⟨Nat.le_of_ble_eq_true rfl, Nat.le_of_ble_eq_true rfl⟩) hS (fun r1 h2 H locs hw hP hS => ?_)
  obtain ⟨hk3, hw⟩ := hw
  refine lv_astore_n (lv' := [(3, .ref (ad (r1))), (0, .ref (ad (0))), (1, .int (p0)), (2, .int (p1))]) hx hb dX5_lines_5 rfl hl (by decide) rfl (fun ls hl => ?_)
  refine lv_aload_n hx hb dX5_lines_6 rfl (lv_at hl 0 rfl) ?_
  refine lv_iload_n hx hb dX5_lines_7 rfl (lv_at hl 3 rfl) ?_
  refine xg_calli (va_runV (As := [.int (p1)]) (rest := []) ⟨hx, hb, hml, hown, hts⟩ (c_X2_has l hl9 hA r1 hk3 p1 hw) (cwV 1 hts gX5_lines_X2_has rfl rfl rfl (by decide +kernel) ⟨Nat.le_of_ble_eq_true rfl, Nat.le_of_ble_eq_true rfl⟩) (xg_preV hB0 hP hK hN hS (xsF hk3) rfl) rfl rfl hl.1 rfl (lv_room (Nat.le_of_ble_eq_true rfl)) dX5_lines_8 ⟨Nat.le_of_ble_eq_true rfl, Nat.le_of_ble_eq_true rfl⟩) hS (fun r4 h5 H locs hw hP hS => ?_)
  refine lv_if_ne (tgt := 24) hx hb dX5_lines_11 (by decide) (fun c6 => ?_) (fun c6 => ?_)
  · have hw := hw.2 c6
    refine lv_aload_n hx hb dX5_lines_24 rfl (lv_at hl 0 rfl) ?_
    refine lv_iload_n hx hb dX5_lines_25 rfl (lv_at hl 3 rfl) ?_
    refine xg_calli (va_runV (As := [.int (p1)]) (rest := []) ⟨hx, hb, hml, hown, hts⟩ (c_X2_linesOf l hl9 hA r1 hk3 p1 hw) (cwV 1 hts gX5_lines_X2_linesOf rfl rfl rfl (by decide +kernel) ⟨Nat.le_of_ble_eq_true rfl, Nat.le_of_ble_eq_true rfl⟩) (xg_preV hB0 hP hK hN hS (xsF hk3) rfl) rfl rfl hl.1 rfl (lv_room (Nat.le_of_ble_eq_true rfl)) dX5_lines_26 ⟨Nat.le_of_ble_eq_true rfl, Nat.le_of_ble_eq_true rfl⟩) hS (fun r7 h8 H locs hw hP hS => ?_)
    exact xg_irets hx hb hr rfl hlocks hB0 hP hK hN hS dX5_lines_29 (by decide) (by decide) hw
  · have hw := hw.1 c6
    exact hw.elim
set_option maxHeartbeats 4000000 in
set_option maxRecDepth 100000 in
theorem c_X5_line (l : Launch) (hl9 : l.stackTraces = false) {B0 : Nat} {ad : Nat → Nat} {D : va_G} {T : Nat → ClassId} (hA : XA B0 ad) (p0 : Int32) (p1 : Int32) (p2 : Int32) {h : xH} {K : Int32 → xH → Prop} (hw : w_X5_line p0 p1 p2 h K) : XM l yX5_line wsX5_line ({ frames := 2, cells := 0, slots := 0, locals := 45 } : Room) B0 ad D T h [.ref (ad (0)), .int (p0), .int (p1), .int (p2)] xei K 0 0 := by
  unfold XM
  refine Met.ofW (cc := cX5_line) (maxL := 5) (ret := (some .int)) (by decide) rfl ?_
  intro p e s m args below meth c s₁ B hml hv
  obtain ⟨rfl, hB0, hP, hK, hN⟩ := hv
  have hx := B.exec
  have hb := B.bytes
  have hr := B.returns
  have hts := atoms_spec (ws := wsX5_line) B.pre
  have hown : s.vm.findClass RX5 = some m.cls := findClass_of_methodNamed B.named
  have hlocks := B.notSynchronized
  have hS : va_S (fun q => B0 ≤ q) s.heap s.heap [] := va_S.rf
  have hl := lv_entry ([.ref (ad (0)), .int (p0), .int (p1), .int (p2)]) (n := 5) (Nat.le_of_ble_eq_true rfl)
  rw [lg_entry_eq]
  generalize (lg_sl ([.ref (ad (0)), .int (p0), .int (p1), .int (p2)]) ++ List.replicate (5 - (lg_sl ([.ref (ad (0)), .int (p0), .int (p1), .int (p2)])).length) Slot.unset).toArray = ls at hl ⊢
  have hl : lv_has ls 5 [(0, .ref (ad (0))), (1, .int (p0)), (2, .int (p1)), (3, .int (p2))] := hl
  unfold w_X5_line at hw
  refine lv_aload_n hx hb dX5_line_0 rfl (lv_at hl 0 rfl) ?_
  refine lv_iload_n hx hb dX5_line_1 rfl (lv_at hl 1 rfl) ?_
  refine xg_callr (va_runV (As := [.int (p0)]) (rest := []) ⟨hx, hb, hml, hown, hts⟩ (c_X5_fileAt l hl9 hA p0 hw) (cwV 1 hts gX5_line_X5_fileAt rfl rfl rfl (by decide +kernel) ⟨Nat.le_of_ble_eq_true rfl, Nat.le_of_ble_eq_true rfl⟩) (xg_preV hB0 hP hK hN hS xs0 rfl) rfl rfl hl.1 rfl (lv_room (Nat.le_of_ble_eq_true rfl)) dX5_line_2 ⟨Nat.le_of_ble_eq_true rfl, Nat.le_of_ble_eq_true rfl⟩) hS (fun r1 h2 H locs hw hP hS => ?_)
  obtain ⟨hk3, hw⟩ := hw
  refine lv_astore (lv' := [(4, .ref (ad (r1))), (0, .ref (ad (0))), (1, .int (p0)), (2, .int (p1)), (3, .int (p2))]) hx hb dX5_line_5 hl (by decide) rfl (fun ls hl => ?_)
  refine lv_aload hx hb dX5_line_7 (lv_at hl 0 rfl) ?_
  refine lv_iload_n hx hb dX5_line_9 rfl (lv_at hl 3 rfl) ?_
  refine xg_calli (va_runV (As := [.int (p1)]) (rest := []) ⟨hx, hb, hml, hown, hts⟩ (c_X2_has l hl9 hA r1 hk3 p1 hw) (cwV 1 hts gX5_line_X2_has rfl rfl rfl (by decide +kernel) ⟨Nat.le_of_ble_eq_true rfl, Nat.le_of_ble_eq_true rfl⟩) (xg_preV hB0 hP hK hN hS (xsF hk3) rfl) rfl rfl hl.1 rfl (lv_room (Nat.le_of_ble_eq_true rfl)) dX5_line_10 ⟨Nat.le_of_ble_eq_true rfl, Nat.le_of_ble_eq_true rfl⟩) hS (fun r4 h5 H locs hw hP hS => ?_)
  refine lv_if_ne (tgt := 26) hx hb dX5_line_13 (by decide) (fun c6 => ?_) (fun c6 => ?_)
  · have hw := hw.2 c6
    refine lv_iload_n hx hb dX5_line_26 rfl (lv_at hl 4 rfl) ?_
    refine lv_iconst (v := 0) hx hb dX5_line_27 (by decide) ?_
    refine lv_aload hx hb dX5_line_28 (lv_at hl 0 rfl) ?_
    refine lv_iload_n hx hb dX5_line_30 rfl (lv_at hl 3 rfl) ?_
    refine xg_calli (va_runV (As := [.int (p1)]) (rest := [.int (0), .int (p2)]) ⟨hx, hb, hml, hown, hts⟩ (c_X2_linesOf l hl9 hA r1 hk3 p1 hw) (cwV 1 hts gX5_line_X2_linesOf rfl rfl rfl (by decide +kernel) ⟨Nat.le_of_ble_eq_true rfl, Nat.le_of_ble_eq_true rfl⟩) (xg_preV hB0 hP hK hN hS (xsF hk3) rfl) rfl rfl hl.1 rfl (lv_room (Nat.le_of_ble_eq_true rfl)) dX5_line_31 ⟨Nat.le_of_ble_eq_true rfl, Nat.le_of_ble_eq_true rfl⟩) hS (fun r7 h8 H locs hw hP hS => ?_)
    refine lv_iconst (v := 1) hx hb dX5_line_34 (by decide) ?_
    refine lv_isub hx hb dX5_line_35 ?_
    refine xg_calli (va_runS (As := [.int (p2), .int (0), .int ((r7 - 1))]) (rest := []) ⟨hx, hb, hml, hown, hts⟩ (c_X5_isWithin l hl9 hA p2 (0 : Int32) (r7 - 1) hw) (va_cwS 3 hts gX5_line_X5_isWithin rfl rfl rfl (by decide +kernel) ⟨Nat.le_of_ble_eq_true rfl, Nat.le_of_ble_eq_true rfl⟩) (xg_preS hB0 hP hK hN hS) rfl rfl hl.1 rfl (lv_room (Nat.le_of_ble_eq_true rfl)) dX5_line_36 ⟨Nat.le_of_ble_eq_true rfl, Nat.le_of_ble_eq_true rfl⟩) hS (fun r9 h10 H locs hw hP hS => ?_)
    refine lv_if_ne (tgt := 52) hx hb dX5_line_39 (by decide) (fun c11 => ?_) (fun c11 => ?_)
    · have hw := hw.2 c11
      refine lv_aload hx hb dX5_line_52 (lv_at hl 0 rfl) ?_
      refine lv_iload_n hx hb dX5_line_54 rfl (lv_at hl 3 rfl) ?_
      refine lv_iload_n hx hb dX5_line_55 rfl (lv_at hl 4 rfl) ?_
      refine xg_calli (va_runV (As := [.int (p1), .int (p2)]) (rest := []) ⟨hx, hb, hml, hown, hts⟩ (c_X2_lineAt l hl9 hA r1 hk3 p1 p2 hw) (cwV 2 hts gX5_line_X2_lineAt rfl rfl rfl (by decide +kernel) ⟨Nat.le_of_ble_eq_true rfl, Nat.le_of_ble_eq_true rfl⟩) (xg_preV hB0 hP hK hN hS (xsF hk3) rfl) rfl rfl hl.1 rfl (lv_room (Nat.le_of_ble_eq_true rfl)) dX5_line_56 ⟨Nat.le_of_ble_eq_true rfl, Nat.le_of_ble_eq_true rfl⟩) hS (fun r12 h13 H locs hw hP hS => ?_)
      exact xg_irets hx hb hr rfl hlocks hB0 hP hK hN hS dX5_line_59 (by decide) (by decide) hw
    · have hw := hw.1 c11
      exact hw.elim
  · have hw := hw.1 c6
    exact hw.elim
set_option maxHeartbeats 4000000 in
set_option maxRecDepth 100000 in
theorem c_X5_generations (l : Launch) (hl9 : l.stackTraces = false) {B0 : Nat} {ad : Nat → Nat} {D : va_G} {T : Nat → ClassId} (hA : XA B0 ad) (p0 : Int32) {h : xH} {K : Int32 → xH → Prop} (hw : w_X5_generations p0 h K) : XM l yX5_generations wsX5_generations ({ frames := 1, cells := 0, slots := 0, locals := 21 } : Room) B0 ad D T h [.ref (ad (0)), .int (p0)] xei K 0 0 := by
  unfold XM
  refine Met.ofW (cc := cX5_generations) (maxL := 2) (ret := (some .int)) (by decide) rfl ?_
  intro p e s m args below meth c s₁ B hml hv
  obtain ⟨rfl, hB0, hP, hK, hN⟩ := hv
  have hx := B.exec
  have hb := B.bytes
  have hr := B.returns
  have hts := atoms_spec (ws := wsX5_generations) B.pre
  have hown : s.vm.findClass RX5 = some m.cls := findClass_of_methodNamed B.named
  have hlocks := B.notSynchronized
  have iX2 : ∀ w ∈ u_ws RX2 TX2 10, w ∈ wsX5_generations := by decide +kernel
  have f_175 := hts (.fieldLink RX5 175 "LogSpooler$LogFile" "olderOnes" "I") (by decide +kernel)
  have hS : va_S (fun q => B0 ≤ q) s.heap s.heap [] := va_S.rf
  have hl := lv_entry ([.ref (ad (0)), .int (p0)]) (n := 2) (Nat.le_of_ble_eq_true rfl)
  rw [lg_entry_eq]
  generalize (lg_sl ([.ref (ad (0)), .int (p0)]) ++ List.replicate (2 - (lg_sl ([.ref (ad (0)), .int (p0)])).length) Slot.unset).toArray = ls at hl ⊢
  have hl : lv_has ls 2 [(0, .ref (ad (0))), (1, .int (p0))] := hl
  unfold w_X5_generations at hw
  refine lv_aload_n hx hb dX5_generations_0 rfl (lv_at hl 0 rfl) ?_
  refine lv_iload_n hx hb dX5_generations_1 rfl (lv_at hl 1 rfl) ?_
  refine xg_callr (va_runV (As := [.int (p0)]) (rest := []) ⟨hx, hb, hml, hown, hts⟩ (c_X5_fileAt l hl9 hA p0 hw) (cwV 1 hts gX5_generations_X5_fileAt rfl rfl rfl (by decide +kernel) ⟨Nat.le_of_ble_eq_true rfl, Nat.le_of_ble_eq_true rfl⟩) (xg_preV hB0 hP hK hN hS xs0 rfl) rfl rfl hl.1 rfl (lv_room (Nat.le_of_ble_eq_true rfl)) dX5_generations_2 ⟨Nat.le_of_ble_eq_true rfl, Nat.le_of_ble_eq_true rfl⟩) hS (fun r1 h2 H locs hw hP hS => ?_)
  obtain ⟨hk3, hw⟩ := hw
  refine xg_get (C := RX2) (TC := TX2) (N := 10) hx hb hts iX2 hown hK hP (xsF hk3) rfl 8 (by decide) f_175 (fun _ h9 => h9) rfl dX5_generations_5 ?_
  exact xg_irets hx hb hr rfl hlocks hB0 hP hK hN hS dX5_generations_8 (by decide) (by decide) hw
set_option maxHeartbeats 4000000 in
set_option maxRecDepth 100000 in
theorem c_X5_queued (l : Launch) (hl9 : l.stackTraces = false) {B0 : Nat} {ad : Nat → Nat} {D : va_G} {T : Nat → ClassId} (hA : XA B0 ad) {h : xH} {K : Int32 → xH → Prop} (hw : w_X5_queued h K) : XM l yX5_queued wsX5_queued ({ frames := 1, cells := 0, slots := 0, locals := 20 } : Room) B0 ad D T h [.ref (ad (0))] xei K 0 0 := by
  unfold XM
  refine Met.ofW (cc := cX5_queued) (maxL := 1) (ret := (some .int)) (by decide) rfl ?_
  intro p e s m args below meth c s₁ B hml hv
  obtain ⟨rfl, hB0, hP, hK, hN⟩ := hv
  have hx := B.exec
  have hb := B.bytes
  have hr := B.returns
  have hts := atoms_spec (ws := wsX5_queued) B.pre
  have hown : s.vm.findClass RX5 = some m.cls := findClass_of_methodNamed B.named
  have hlocks := B.notSynchronized
  have iX5 : ∀ w ∈ u_ws RX5 TX5 9, w ∈ wsX5_queued := by decide +kernel
  have f_30 := hts (.fieldLink RX5 30 "LogSpooler" "forwarder" "LLogSpooler$Forwarder;") (by decide +kernel)
  have hS : va_S (fun q => B0 ≤ q) s.heap s.heap [] := va_S.rf
  have hl := lv_entry ([.ref (ad (0))]) (n := 1) (Nat.le_of_ble_eq_true rfl)
  rw [lg_entry_eq]
  generalize (lg_sl ([.ref (ad (0))]) ++ List.replicate (1 - (lg_sl ([.ref (ad (0))])).length) Slot.unset).toArray = ls at hl ⊢
  have hl : lv_has ls 1 [(0, .ref (ad (0)))] := hl
  unfold w_X5_queued at hw
  refine lv_aload_n hx hb dX5_queued_0 rfl (lv_at hl 0 rfl) ?_
  refine xg_getr (C := RX5) (TC := TX5) (N := 9) hx hb hts iX5 hown hK hP xs0 rfl 3 (by decide) f_30 (fun _ h9 => h9) rfl dX5_queued_1 ?_
  refine xg_calli (va_runV (As := []) (rest := []) ⟨hx, hb, hml, hown, hts⟩ (c_X0_waiting l hl9 hA hw) (cwV 0 hts gX5_queued_X0_waiting rfl rfl rfl (by decide +kernel) ⟨Nat.le_of_ble_eq_true rfl, Nat.le_of_ble_eq_true rfl⟩) (xg_preV hB0 hP hK hN hS xs4 rfl) rfl rfl hl.1 rfl (lv_room (Nat.le_of_ble_eq_true rfl)) dX5_queued_4 ⟨Nat.le_of_ble_eq_true rfl, Nat.le_of_ble_eq_true rfl⟩) hS (fun r1 h2 H locs hw hP hS => ?_)
  exact xg_irets hx hb hr rfl hlocks hB0 hP hK hN hS dX5_queued_7 (by decide) (by decide) hw
set_option maxHeartbeats 4000000 in
set_option maxRecDepth 100000 in
theorem c_X5_inFlight (l : Launch) (hl9 : l.stackTraces = false) {B0 : Nat} {ad : Nat → Nat} {D : va_G} {T : Nat → ClassId} (hA : XA B0 ad) {h : xH} {K : Int32 → xH → Prop} (hw : w_X5_inFlight h K) : XM l yX5_inFlight wsX5_inFlight ({ frames := 1, cells := 0, slots := 0, locals := 20 } : Room) B0 ad D T h [.ref (ad (0))] xei K 0 0 := by
  unfold XM
  refine Met.ofW (cc := cX5_inFlight) (maxL := 1) (ret := (some .int)) (by decide) rfl ?_
  intro p e s m args below meth c s₁ B hml hv
  obtain ⟨rfl, hB0, hP, hK, hN⟩ := hv
  have hx := B.exec
  have hb := B.bytes
  have hr := B.returns
  have hts := atoms_spec (ws := wsX5_inFlight) B.pre
  have hown : s.vm.findClass RX5 = some m.cls := findClass_of_methodNamed B.named
  have hlocks := B.notSynchronized
  have iX5 : ∀ w ∈ u_ws RX5 TX5 9, w ∈ wsX5_inFlight := by decide +kernel
  have f_30 := hts (.fieldLink RX5 30 "LogSpooler" "forwarder" "LLogSpooler$Forwarder;") (by decide +kernel)
  have hS : va_S (fun q => B0 ≤ q) s.heap s.heap [] := va_S.rf
  have hl := lv_entry ([.ref (ad (0))]) (n := 1) (Nat.le_of_ble_eq_true rfl)
  rw [lg_entry_eq]
  generalize (lg_sl ([.ref (ad (0))]) ++ List.replicate (1 - (lg_sl ([.ref (ad (0))])).length) Slot.unset).toArray = ls at hl ⊢
  have hl : lv_has ls 1 [(0, .ref (ad (0)))] := hl
  unfold w_X5_inFlight at hw
  refine lv_aload_n hx hb dX5_inFlight_0 rfl (lv_at hl 0 rfl) ?_
  refine xg_getr (C := RX5) (TC := TX5) (N := 9) hx hb hts iX5 hown hK hP xs0 rfl 3 (by decide) f_30 (fun _ h9 => h9) rfl dX5_inFlight_1 ?_
  refine xg_calli (va_runV (As := []) (rest := []) ⟨hx, hb, hml, hown, hts⟩ (c_X0_flying l hl9 hA hw) (cwV 0 hts gX5_inFlight_X0_flying rfl rfl rfl (by decide +kernel) ⟨Nat.le_of_ble_eq_true rfl, Nat.le_of_ble_eq_true rfl⟩) (xg_preV hB0 hP hK hN hS xs4 rfl) rfl rfl hl.1 rfl (lv_room (Nat.le_of_ble_eq_true rfl)) dX5_inFlight_4 ⟨Nat.le_of_ble_eq_true rfl, Nat.le_of_ble_eq_true rfl⟩) hS (fun r1 h2 H locs hw hP hS => ?_)
  exact xg_irets hx hb hr rfl hlocks hB0 hP hK hN hS dX5_inFlight_7 (by decide) (by decide) hw
set_option maxHeartbeats 4000000 in
set_option maxRecDepth 100000 in
theorem c_X5_acknowledged (l : Launch) (hl9 : l.stackTraces = false) {B0 : Nat} {ad : Nat → Nat} {D : va_G} {T : Nat → ClassId} (hA : XA B0 ad) {h : xH} {K : Int32 → xH → Prop} (hw : w_X5_acknowledged h K) : XM l yX5_acknowledged wsX5_acknowledged ({ frames := 0, cells := 0, slots := 0, locals := 0 } : Room) B0 ad D T h [.ref (ad (0))] xei K 0 0 := by
  unfold XM
  refine Met.ofW (cc := cX5_acknowledged) (maxL := 1) (ret := (some .int)) (by decide) rfl ?_
  intro p e s m args below meth c s₁ B hml hv
  obtain ⟨rfl, hB0, hP, hK, hN⟩ := hv
  have hx := B.exec
  have hb := B.bytes
  have hr := B.returns
  have hts := atoms_spec (ws := wsX5_acknowledged) B.pre
  have hown : s.vm.findClass RX5 = some m.cls := findClass_of_methodNamed B.named
  have hlocks := B.notSynchronized
  have iX0 : ∀ w ∈ u_ws RX0 TX0 6, w ∈ wsX5_acknowledged := by decide +kernel
  have iX5 : ∀ w ∈ u_ws RX5 TX5 9, w ∈ wsX5_acknowledged := by decide +kernel
  have f_30 := hts (.fieldLink RX5 30 "LogSpooler" "forwarder" "LLogSpooler$Forwarder;") (by decide +kernel)
  have f_225 := hts (.fieldLink RX5 225 "LogSpooler$Forwarder" "acknowledgedOnes" "I") (by decide +kernel)
  have hS : va_S (fun q => B0 ≤ q) s.heap s.heap [] := va_S.rf
  have hl := lv_entry ([.ref (ad (0))]) (n := 1) (Nat.le_of_ble_eq_true rfl)
  rw [lg_entry_eq]
  generalize (lg_sl ([.ref (ad (0))]) ++ List.replicate (1 - (lg_sl ([.ref (ad (0))])).length) Slot.unset).toArray = ls at hl ⊢
  have hl : lv_has ls 1 [(0, .ref (ad (0)))] := hl
  unfold w_X5_acknowledged at hw
  refine lv_aload_n hx hb dX5_acknowledged_0 rfl (lv_at hl 0 rfl) ?_
  refine xg_getr (C := RX5) (TC := TX5) (N := 9) hx hb hts iX5 hown hK hP xs0 rfl 3 (by decide) f_30 (fun _ h9 => h9) rfl dX5_acknowledged_1 ?_
  refine xg_get (C := RX0) (TC := TX0) (N := 6) hx hb hts iX0 hown hK hP xs4 rfl 3 (by decide) f_225 (fun _ h9 => h9) rfl dX5_acknowledged_4 ?_
  exact xg_irets hx hb hr rfl hlocks hB0 hP hK hN hS dX5_acknowledged_7 (by decide) (by decide) hw
set_option maxHeartbeats 4000000 in
set_option maxRecDepth 100000 in
theorem c_X5_lost (l : Launch) (hl9 : l.stackTraces = false) {B0 : Nat} {ad : Nat → Nat} {D : va_G} {T : Nat → ClassId} (hA : XA B0 ad) {h : xH} {K : Int32 → xH → Prop} (hw : w_X5_lost h K) : XM l yX5_lost wsX5_lost ({ frames := 0, cells := 0, slots := 0, locals := 0 } : Room) B0 ad D T h [.ref (ad (0))] xei K 0 0 := by
  unfold XM
  refine Met.ofW (cc := cX5_lost) (maxL := 1) (ret := (some .int)) (by decide) rfl ?_
  intro p e s m args below meth c s₁ B hml hv
  obtain ⟨rfl, hB0, hP, hK, hN⟩ := hv
  have hx := B.exec
  have hb := B.bytes
  have hr := B.returns
  have hts := atoms_spec (ws := wsX5_lost) B.pre
  have hown : s.vm.findClass RX5 = some m.cls := findClass_of_methodNamed B.named
  have hlocks := B.notSynchronized
  have iX0 : ∀ w ∈ u_ws RX0 TX0 6, w ∈ wsX5_lost := by decide +kernel
  have iX5 : ∀ w ∈ u_ws RX5 TX5 9, w ∈ wsX5_lost := by decide +kernel
  have f_30 := hts (.fieldLink RX5 30 "LogSpooler" "forwarder" "LLogSpooler$Forwarder;") (by decide +kernel)
  have f_228 := hts (.fieldLink RX5 228 "LogSpooler$Forwarder" "lostOnes" "I") (by decide +kernel)
  have hS : va_S (fun q => B0 ≤ q) s.heap s.heap [] := va_S.rf
  have hl := lv_entry ([.ref (ad (0))]) (n := 1) (Nat.le_of_ble_eq_true rfl)
  rw [lg_entry_eq]
  generalize (lg_sl ([.ref (ad (0))]) ++ List.replicate (1 - (lg_sl ([.ref (ad (0))])).length) Slot.unset).toArray = ls at hl ⊢
  have hl : lv_has ls 1 [(0, .ref (ad (0)))] := hl
  unfold w_X5_lost at hw
  refine lv_aload_n hx hb dX5_lost_0 rfl (lv_at hl 0 rfl) ?_
  refine xg_getr (C := RX5) (TC := TX5) (N := 9) hx hb hts iX5 hown hK hP xs0 rfl 3 (by decide) f_30 (fun _ h9 => h9) rfl dX5_lost_1 ?_
  refine xg_get (C := RX0) (TC := TX0) (N := 6) hx hb hts iX0 hown hK hP xs4 rfl 4 (by decide) f_228 (fun _ h9 => h9) rfl dX5_lost_4 ?_
  exact xg_irets hx hb hr rfl hlocks hB0 hP hK hN hS dX5_lost_7 (by decide) (by decide) hw
set_option maxHeartbeats 4000000 in
set_option maxRecDepth 100000 in
theorem c_X5_messages (l : Launch) (hl9 : l.stackTraces = false) {B0 : Nat} {ad : Nat → Nat} {D : va_G} {T : Nat → ClassId} (hA : XA B0 ad) {h : xH} {K : Int32 → xH → Prop} (hw : w_X5_messages h K) : XM l yX5_messages wsX5_messages ({ frames := 0, cells := 0, slots := 0, locals := 0 } : Room) B0 ad D T h [.ref (ad (0))] xei K 0 0 := by
  unfold XM
  refine Met.ofW (cc := cX5_messages) (maxL := 1) (ret := (some .int)) (by decide) rfl ?_
  intro p e s m args below meth c s₁ B hml hv
  obtain ⟨rfl, hB0, hP, hK, hN⟩ := hv
  have hx := B.exec
  have hb := B.bytes
  have hr := B.returns
  have hts := atoms_spec (ws := wsX5_messages) B.pre
  have hown : s.vm.findClass RX5 = some m.cls := findClass_of_methodNamed B.named
  have hlocks := B.notSynchronized
  have iX1 : ∀ w ∈ u_ws RX1 TX1 3, w ∈ wsX5_messages := by decide +kernel
  have iX5 : ∀ w ∈ u_ws RX5 TX5 9, w ∈ wsX5_messages := by decide +kernel
  have f_37 := hts (.fieldLink RX5 37 "LogSpooler" "ledger" "LLogSpooler$Ledger;") (by decide +kernel)
  have f_154 := hts (.fieldLink RX5 154 "LogSpooler$Ledger" "entries" "I") (by decide +kernel)
  have hS : va_S (fun q => B0 ≤ q) s.heap s.heap [] := va_S.rf
  have hl := lv_entry ([.ref (ad (0))]) (n := 1) (Nat.le_of_ble_eq_true rfl)
  rw [lg_entry_eq]
  generalize (lg_sl ([.ref (ad (0))]) ++ List.replicate (1 - (lg_sl ([.ref (ad (0))])).length) Slot.unset).toArray = ls at hl ⊢
  have hl : lv_has ls 1 [(0, .ref (ad (0)))] := hl
  unfold w_X5_messages at hw
  refine lv_aload_n hx hb dX5_messages_0 rfl (lv_at hl 0 rfl) ?_
  refine xg_getr (C := RX5) (TC := TX5) (N := 9) hx hb hts iX5 hown hK hP xs0 rfl 4 (by decide) f_37 (fun _ h9 => h9) rfl dX5_messages_1 ?_
  refine xg_get (C := RX1) (TC := TX1) (N := 3) hx hb hts iX1 hown hK hP xs6 rfl 2 (by decide) f_154 (fun _ h9 => h9) rfl dX5_messages_4 ?_
  exact xg_irets hx hb hr rfl hlocks hB0 hP hK hN hS dX5_messages_7 (by decide) (by decide) hw
set_option maxHeartbeats 4000000 in
set_option maxRecDepth 100000 in
theorem c_X5_fateOf (l : Launch) (hl9 : l.stackTraces = false) {B0 : Nat} {ad : Nat → Nat} {D : va_G} {T : Nat → ClassId} (hA : XA B0 ad) (p0 : Int32) {h : xH} {K : Int32 → xH → Prop} (hw : w_X5_fateOf p0 h K) : XM l yX5_fateOf wsX5_fateOf ({ frames := 1, cells := 0, slots := 0, locals := 21 } : Room) B0 ad D T h [.ref (ad (0)), .int (p0)] xei K 0 0 := by
  unfold XM
  refine Met.ofW (cc := cX5_fateOf) (maxL := 2) (ret := (some .int)) (by decide) rfl ?_
  intro p e s m args below meth c s₁ B hml hv
  obtain ⟨rfl, hB0, hP, hK, hN⟩ := hv
  have hx := B.exec
  have hb := B.bytes
  have hr := B.returns
  have hts := atoms_spec (ws := wsX5_fateOf) B.pre
  have hown : s.vm.findClass RX5 = some m.cls := findClass_of_methodNamed B.named
  have hlocks := B.notSynchronized
  have iX5 : ∀ w ∈ u_ws RX5 TX5 9, w ∈ wsX5_fateOf := by decide +kernel
  have f_37 := hts (.fieldLink RX5 37 "LogSpooler" "ledger" "LLogSpooler$Ledger;") (by decide +kernel)
  have hS : va_S (fun q => B0 ≤ q) s.heap s.heap [] := va_S.rf
  have hl := lv_entry ([.ref (ad (0)), .int (p0)]) (n := 2) (Nat.le_of_ble_eq_true rfl)
  rw [lg_entry_eq]
  generalize (lg_sl ([.ref (ad (0)), .int (p0)]) ++ List.replicate (2 - (lg_sl ([.ref (ad (0)), .int (p0)])).length) Slot.unset).toArray = ls at hl ⊢
  have hl : lv_has ls 2 [(0, .ref (ad (0))), (1, .int (p0))] := hl
  unfold w_X5_fateOf at hw
  refine lv_aload_n hx hb dX5_fateOf_0 rfl (lv_at hl 0 rfl) ?_
  refine xg_getr (C := RX5) (TC := TX5) (N := 9) hx hb hts iX5 hown hK hP xs0 rfl 4 (by decide) f_37 (fun _ h9 => h9) rfl dX5_fateOf_1 ?_
  refine lv_iload_n hx hb dX5_fateOf_4 rfl (lv_at hl 1 rfl) ?_
  refine xg_calli (va_runV (As := [.int (p0)]) (rest := []) ⟨hx, hb, hml, hown, hts⟩ (c_X1_has l hl9 hA p0 hw) (cwV 1 hts gX5_fateOf_X1_has rfl rfl rfl (by decide +kernel) ⟨Nat.le_of_ble_eq_true rfl, Nat.le_of_ble_eq_true rfl⟩) (xg_preV hB0 hP hK hN hS xs6 rfl) rfl rfl hl.1 rfl (lv_room (Nat.le_of_ble_eq_true rfl)) dX5_fateOf_5 ⟨Nat.le_of_ble_eq_true rfl, Nat.le_of_ble_eq_true rfl⟩) hS (fun r1 h2 H locs hw hP hS => ?_)
  refine lv_if_ne (tgt := 21) hx hb dX5_fateOf_8 (by decide) (fun c3 => ?_) (fun c3 => ?_)
  · have hw := hw.2 c3
    refine lv_aload_n hx hb dX5_fateOf_21 rfl (lv_at hl 0 rfl) ?_
    refine xg_getr (C := RX5) (TC := TX5) (N := 9) hx hb hts iX5 hown hK hP xs0 rfl 4 (by decide) f_37 (fun _ h9 => h9) rfl dX5_fateOf_22 ?_
    refine lv_iload_n hx hb dX5_fateOf_25 rfl (lv_at hl 1 rfl) ?_
    refine xg_calli (va_runV (As := [.int (p0)]) (rest := []) ⟨hx, hb, hml, hown, hts⟩ (c_X1_fateAt l hl9 hA p0 hw) (cwV 1 hts gX5_fateOf_X1_fateAt rfl rfl rfl (by decide +kernel) ⟨Nat.le_of_ble_eq_true rfl, Nat.le_of_ble_eq_true rfl⟩) (xg_preV hB0 hP hK hN hS xs6 rfl) rfl rfl hl.1 rfl (lv_room (Nat.le_of_ble_eq_true rfl)) dX5_fateOf_26 ⟨Nat.le_of_ble_eq_true rfl, Nat.le_of_ble_eq_true rfl⟩) hS (fun r4 h5 H locs hw hP hS => ?_)
    exact xg_irets hx hb hr rfl hlocks hB0 hP hK hN hS dX5_fateOf_29 (by decide) (by decide) hw
  · have hw := hw.1 c3
    exact hw.elim
set_option maxHeartbeats 4000000 in
set_option maxRecDepth 100000 in
theorem c_X5_count (l : Launch) (hl9 : l.stackTraces = false) {B0 : Nat} {ad : Nat → Nat} {D : va_G} {T : Nat → ClassId} (hA : XA B0 ad) (p0 : Int32) {h : xH} {K : Int32 → xH → Prop} (hw : w_X5_count p0 h K) : XM l yX5_count wsX5_count ({ frames := 1, cells := 0, slots := 0, locals := 23 } : Room) B0 ad D T h [.ref (ad (0)), .int (p0)] xei K 0 0 := by
  unfold XM
  refine Met.ofW (cc := cX5_count) (maxL := 2) (ret := (some .int)) (by decide) rfl ?_
  intro p e s m args below meth c s₁ B hml hv
  obtain ⟨rfl, hB0, hP, hK, hN⟩ := hv
  have hx := B.exec
  have hb := B.bytes
  have hr := B.returns
  have hts := atoms_spec (ws := wsX5_count) B.pre
  have hown : s.vm.findClass RX5 = some m.cls := findClass_of_methodNamed B.named
  have hlocks := B.notSynchronized
  have iX5 : ∀ w ∈ u_ws RX5 TX5 9, w ∈ wsX5_count := by decide +kernel
  have f_37 := hts (.fieldLink RX5 37 "LogSpooler" "ledger" "LLogSpooler$Ledger;") (by decide +kernel)
  have hS : va_S (fun q => B0 ≤ q) s.heap s.heap [] := va_S.rf
  have hl := lv_entry ([.ref (ad (0)), .int (p0)]) (n := 2) (Nat.le_of_ble_eq_true rfl)
  rw [lg_entry_eq]
  generalize (lg_sl ([.ref (ad (0)), .int (p0)]) ++ List.replicate (2 - (lg_sl ([.ref (ad (0)), .int (p0)])).length) Slot.unset).toArray = ls at hl ⊢
  have hl : lv_has ls 2 [(0, .ref (ad (0))), (1, .int (p0))] := hl
  unfold w_X5_count at hw
  refine lv_iload_n hx hb dX5_count_0 rfl (lv_at hl 1 rfl) ?_
  refine lv_iconst (v := 0) hx hb dX5_count_1 (by decide) ?_
  refine lv_iconst (v := 3) hx hb dX5_count_2 (by decide) ?_
  refine xg_calli (va_runS (As := [.int (p0), .int (0), .int (3)]) (rest := []) ⟨hx, hb, hml, hown, hts⟩ (c_X5_isWithin l hl9 hA p0 (0 : Int32) (3 : Int32) hw) (va_cwS 3 hts gX5_count_X5_isWithin rfl rfl rfl (by decide +kernel) ⟨Nat.le_of_ble_eq_true rfl, Nat.le_of_ble_eq_true rfl⟩) (xg_preS hB0 hP hK hN hS) rfl rfl hl.1 rfl (lv_room (Nat.le_of_ble_eq_true rfl)) dX5_count_3 ⟨Nat.le_of_ble_eq_true rfl, Nat.le_of_ble_eq_true rfl⟩) hS (fun r1 h2 H locs hw hP hS => ?_)
  refine lv_if_ne (tgt := 19) hx hb dX5_count_6 (by decide) (fun c3 => ?_) (fun c3 => ?_)
  · have hw := hw.2 c3
    refine lv_aload_n hx hb dX5_count_19 rfl (lv_at hl 0 rfl) ?_
    refine xg_getr (C := RX5) (TC := TX5) (N := 9) hx hb hts iX5 hown hK hP xs0 rfl 4 (by decide) f_37 (fun _ h9 => h9) rfl dX5_count_20 ?_
    refine lv_iload_n hx hb dX5_count_23 rfl (lv_at hl 1 rfl) ?_
    refine xg_calli (va_runV (As := [.int (p0)]) (rest := []) ⟨hx, hb, hml, hown, hts⟩ (c_X1_entriesWith l hl9 hA p0 hw) (cwV 1 hts gX5_count_X1_entriesWith rfl rfl rfl (by decide +kernel) ⟨Nat.le_of_ble_eq_true rfl, Nat.le_of_ble_eq_true rfl⟩) (xg_preV hB0 hP hK hN hS xs6 rfl) rfl rfl hl.1 rfl (lv_room (Nat.le_of_ble_eq_true rfl)) dX5_count_24 ⟨Nat.le_of_ble_eq_true rfl, Nat.le_of_ble_eq_true rfl⟩) hS (fun r4 h5 H locs hw hP hS => ?_)
    exact xg_irets hx hb hr rfl hlocks hB0 hP hK hN hS dX5_count_27 (by decide) (by decide) hw
  · have hw := hw.1 c3
    exact hw.elim
set_option maxHeartbeats 4000000 in
set_option maxRecDepth 100000 in
theorem c_X5_targetsOf (l : Launch) (hl9 : l.stackTraces = false) {B0 : Nat} {ad : Nat → Nat} {D : va_G} {T : Nat → ClassId} (hA : XA B0 ad) (p0 : Int32) {h : xH} {K : Int32 → xH → Prop} (hw : w_X5_targetsOf p0 h K) : XM l yX5_targetsOf wsX5_targetsOf ({ frames := 1, cells := 0, slots := 0, locals := 21 } : Room) B0 ad D T h [.ref (ad (0)), .int (p0)] xei K 0 0 := by
  unfold XM
  refine Met.ofW (cc := cX5_targetsOf) (maxL := 2) (ret := (some .int)) (by decide) rfl ?_
  intro p e s m args below meth c s₁ B hml hv
  obtain ⟨rfl, hB0, hP, hK, hN⟩ := hv
  have hx := B.exec
  have hb := B.bytes
  have hr := B.returns
  have hts := atoms_spec (ws := wsX5_targetsOf) B.pre
  have hown : s.vm.findClass RX5 = some m.cls := findClass_of_methodNamed B.named
  have hlocks := B.notSynchronized
  have iX5 : ∀ w ∈ u_ws RX5 TX5 9, w ∈ wsX5_targetsOf := by decide +kernel
  have f_37 := hts (.fieldLink RX5 37 "LogSpooler" "ledger" "LLogSpooler$Ledger;") (by decide +kernel)
  have hS : va_S (fun q => B0 ≤ q) s.heap s.heap [] := va_S.rf
  have hl := lv_entry ([.ref (ad (0)), .int (p0)]) (n := 2) (Nat.le_of_ble_eq_true rfl)
  rw [lg_entry_eq]
  generalize (lg_sl ([.ref (ad (0)), .int (p0)]) ++ List.replicate (2 - (lg_sl ([.ref (ad (0)), .int (p0)])).length) Slot.unset).toArray = ls at hl ⊢
  have hl : lv_has ls 2 [(0, .ref (ad (0))), (1, .int (p0))] := hl
  unfold w_X5_targetsOf at hw
  refine lv_aload_n hx hb dX5_targetsOf_0 rfl (lv_at hl 0 rfl) ?_
  refine xg_getr (C := RX5) (TC := TX5) (N := 9) hx hb hts iX5 hown hK hP xs0 rfl 4 (by decide) f_37 (fun _ h9 => h9) rfl dX5_targetsOf_1 ?_
  refine lv_iload_n hx hb dX5_targetsOf_4 rfl (lv_at hl 1 rfl) ?_
  refine xg_calli (va_runV (As := [.int (p0)]) (rest := []) ⟨hx, hb, hml, hown, hts⟩ (c_X1_has l hl9 hA p0 hw) (cwV 1 hts gX5_targetsOf_X1_has rfl rfl rfl (by decide +kernel) ⟨Nat.le_of_ble_eq_true rfl, Nat.le_of_ble_eq_true rfl⟩) (xg_preV hB0 hP hK hN hS xs6 rfl) rfl rfl hl.1 rfl (lv_room (Nat.le_of_ble_eq_true rfl)) dX5_targetsOf_5 ⟨Nat.le_of_ble_eq_true rfl, Nat.le_of_ble_eq_true rfl⟩) hS (fun r1 h2 H locs hw hP hS => ?_)
  refine lv_if_ne (tgt := 21) hx hb dX5_targetsOf_8 (by decide) (fun c3 => ?_) (fun c3 => ?_)
  · have hw := hw.2 c3
    refine lv_aload_n hx hb dX5_targetsOf_21 rfl (lv_at hl 0 rfl) ?_
    refine xg_getr (C := RX5) (TC := TX5) (N := 9) hx hb hts iX5 hown hK hP xs0 rfl 4 (by decide) f_37 (fun _ h9 => h9) rfl dX5_targetsOf_22 ?_
    refine lv_iload_n hx hb dX5_targetsOf_25 rfl (lv_at hl 1 rfl) ?_
    refine xg_calli (va_runV (As := [.int (p0)]) (rest := []) ⟨hx, hb, hml, hown, hts⟩ (c_X1_targetsAt l hl9 hA p0 hw) (cwV 1 hts gX5_targetsOf_X1_targetsAt rfl rfl rfl (by decide +kernel) ⟨Nat.le_of_ble_eq_true rfl, Nat.le_of_ble_eq_true rfl⟩) (xg_preV hB0 hP hK hN hS xs6 rfl) rfl rfl hl.1 rfl (lv_room (Nat.le_of_ble_eq_true rfl)) dX5_targetsOf_26 ⟨Nat.le_of_ble_eq_true rfl, Nat.le_of_ble_eq_true rfl⟩) hS (fun r4 h5 H locs hw hP hS => ?_)
    exact xg_irets hx hb hr rfl hlocks hB0 hP hK hN hS dX5_targetsOf_29 (by decide) (by decide) hw
  · have hw := hw.1 c3
    exact hw.elim
