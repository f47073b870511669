set_option maxHeartbeats 4000000 in
set_option maxRecDepth 100000 in
theorem c_X6_thrown (l : Launch) (hl9 : l.stackTraces = false) {B0 : Nat} {ad : Nat → Nat} {D : va_G} {T : Nat → ClassId} (hA : XA B0 ad) {h : xH} {K : Int32 → xH → Prop} (hw : w_X6_thrown h K) : XM l yX6_thrown wsX6_thrown ({ frames := 0, cells := 0, slots := 0, locals := 0 } : Room) B0 ad D T h [.ref (ad (60))] xei K 0 0 := by
  unfold XM
  refine Met.ofW (cc := cX6_thrown) (maxL := 1) (ret := (some .int)) (by decide) rfl ?_
  intro p e s m args below meth c s₁ B hml hv
  obtain ⟨rfl, hB0, hP, hK, hN⟩ := hv
  have hx := B.exec
  have hb := B.bytes
  have hr := B.returns
  have hts := atoms_spec (ws := wsX6_thrown) B.pre
  have hown : s.vm.findClass RX6 = some m.cls := findClass_of_methodNamed B.named
  have hlocks := B.notSynchronized
  have iX6 : ∀ w ∈ u_ws RX6 TX6 34, w ∈ wsX6_thrown := by decide +kernel
  have f_87 := hts (.fieldLink RX6 87 "LogSpoolerModel" "thrown" "I") (by decide +kernel)
  have hS : va_S (fun q => B0 ≤ q) s.heap s.heap [] := va_S.rf
  have hl := lv_entry ([.ref (ad (60))]) (n := 1) (Nat.le_of_ble_eq_true rfl)
  rw [lg_entry_eq]
  generalize (lg_sl ([.ref (ad (60))]) ++ List.replicate (1 - (lg_sl ([.ref (ad (60))])).length) Slot.unset).toArray = ls at hl ⊢
  have hl : lv_has ls 1 [(0, .ref (ad (60)))] := hl
  unfold w_X6_thrown at hw
  refine lv_aload_n hx hb dX6_thrown_0 rfl (lv_at hl 0 rfl) ?_
  refine xg_get (C := RX6) (TC := TX6) (N := 34) hx hb hts iX6 hown hK hP xs60 rfl 0 (by decide) f_87 (fun _ h9 => h9) rfl dX6_thrown_1 ?_
  exact xg_irets hx hb hr rfl hlocks hB0 hP hK hN hS dX6_thrown_4 (by decide) (by decide) hw
set_option maxHeartbeats 4000000 in
set_option maxRecDepth 100000 in
theorem c_X6_holds (l : Launch) (hl9 : l.stackTraces = false) {B0 : Nat} {ad : Nat → Nat} {D : va_G} {T : Nat → ClassId} (hA : XA B0 ad) (p0 : Int32) {h : xH} {K : Int32 → xH → Prop} (hw : w_X6_holds p0 h K) : XM l yX6_holds wsX6_holds ({ frames := 0, cells := 0, slots := 0, locals := 0 } : Room) B0 ad D T h [.ref (ad (60)), .int (p0)] xei K 0 0 := by
  unfold XM
  refine Met.ofW (cc := cX6_holds) (maxL := 2) (ret := (some .boolean)) (by decide) rfl ?_
  intro p e s m args below meth c s₁ B hml hv
  obtain ⟨rfl, hB0, hP, hK, hN⟩ := hv
  have hx := B.exec
  have hb := B.bytes
  have hr := B.returns
  have hts := atoms_spec (ws := wsX6_holds) B.pre
  have hown : s.vm.findClass RX6 = some m.cls := findClass_of_methodNamed B.named
  have hlocks := B.notSynchronized
  have iX6 : ∀ w ∈ u_ws RX6 TX6 34, w ∈ wsX6_holds := by decide +kernel
  have f_87 := hts (.fieldLink RX6 87 "LogSpoolerModel" "thrown" "I") (by decide +kernel)
  have hS : va_S (fun q => B0 ≤ q) s.heap s.heap [] := va_S.rf
  have hl := lv_entry ([.ref (ad (60)), .int (p0)]) (n := 2) (Nat.le_of_ble_eq_true rfl)
  rw [lg_entry_eq]
  generalize (lg_sl ([.ref (ad (60)), .int (p0)]) ++ List.replicate (2 - (lg_sl ([.ref (ad (60)), .int (p0)])).length) Slot.unset).toArray = ls at hl ⊢
  have hl : lv_has ls 2 [(0, .ref (ad (60))), (1, .int (p0))] := hl
  unfold w_X6_holds at hw
  refine lv_aload_n hx hb dX6_holds_0 rfl (lv_at hl 0 rfl) ?_
  refine lv_iload_n hx hb dX6_holds_1 rfl (lv_at hl 1 rfl) ?_
  refine xg_put (C := RX6) (TC := TX6) (N := 34) hx hb hts iX6 tyX6 tyX6_ok nmX6 hown hK hP hA hS xs60 rfl 0 (by decide) f_87 (fun _ h9 => h9) rfl rfl (ty := .int) (by decide +kernel) rfl rfl dX6_holds_2 (fun H locs h1 eh1 hP hS => ?_)
  have hw := hw h1 eh1
  refine lv_iload_n hx hb dX6_holds_5 rfl (lv_at hl 1 rfl) ?_
  refine lv_if_ne (tgt := 13) hx hb dX6_holds_6 (by decide) (fun c2 => ?_) (fun c2 => ?_)
  · have hw := hw.2 c2
    refine lv_iconst (v := 0) hx hb dX6_holds_13 (by decide) ?_
    exact xg_irets hx hb hr rfl hlocks hB0 hP hK hN hS dX6_holds_14 (by decide) (by decide) hw
  · have hw := hw.1 c2
    refine lv_iconst (v := 1) hx hb dX6_holds_9 (by decide) ?_
    refine lv_goto (tgt := 14) hx hb dX6_holds_10 (by decide) ?_
    exact xg_irets hx hb hr rfl hlocks hB0 hP hK hN hS dX6_holds_14 (by decide) (by decide) hw
set_option maxHeartbeats 4000000 in
set_option maxRecDepth 100000 in
theorem c_X6_isIn (l : Launch) (hl9 : l.stackTraces = false) {B0 : Nat} {ad : Nat → Nat} {D : va_G} {T : Nat → ClassId} (hA : XA B0 ad) (p0 : Int32) (p1 : Int32) (p2 : Int32) {h : xH} {K : Int32 → xH → Prop} (hw : w_X6_isIn p0 p1 p2 h K) : XM l yX6_isIn wsX6_isIn ({ frames := 0, cells := 0, slots := 0, locals := 0 } : Room) B0 ad D T h [.int (p0), .int (p1), .int (p2)] xei K 0 0 := by
  unfold XM
  refine Met.ofW (cc := cX6_isIn) (maxL := 3) (ret := (some .boolean)) (by decide) rfl ?_
  intro p e s m args below meth c s₁ B hml hv
  obtain ⟨rfl, hB0, hP, hK, hN⟩ := hv
  have hx := B.exec
  have hb := B.bytes
  have hr := B.returns
  have hts := atoms_spec (ws := wsX6_isIn) B.pre
  have hown : s.vm.findClass RX6 = some m.cls := findClass_of_methodNamed B.named
  have hlocks := B.notSynchronized
  have hS : va_S (fun q => B0 ≤ q) s.heap s.heap [] := va_S.rf
  have hl := lv_entry ([.int (p0), .int (p1), .int (p2)]) (n := 3) (Nat.le_of_ble_eq_true rfl)
  rw [lg_entry_eq]
  generalize (lg_sl ([.int (p0), .int (p1), .int (p2)]) ++ List.replicate (3 - (lg_sl ([.int (p0), .int (p1), .int (p2)])).length) Slot.unset).toArray = ls at hl ⊢
  have hl : lv_has ls 3 [(0, .int (p0)), (1, .int (p1)), (2, .int (p2))] := hl
  unfold w_X6_isIn at hw
  refine lv_iload_n hx hb dX6_isIn_0 rfl (lv_at hl 0 rfl) ?_
  refine lv_iload_n hx hb dX6_isIn_1 rfl (lv_at hl 1 rfl) ?_
  refine lv_icmp_lt (tgt := 14) hx hb dX6_isIn_2 (by decide) (fun c1 => ?_) (fun c1 => ?_)
  · have hw := hw.1 c1
    refine lv_iconst (v := 0) hx hb dX6_isIn_14 (by decide) ?_
    exact xg_irets hx hb hr rfl hlocks hB0 hP hK hN hS dX6_isIn_15 (by decide) (by decide) hw
  · have hw := hw.2 c1
    refine lv_iload_n hx hb dX6_isIn_5 rfl (lv_at hl 0 rfl) ?_
    refine lv_iload_n hx hb dX6_isIn_6 rfl (lv_at hl 2 rfl) ?_
    refine lv_icmp_gt (tgt := 14) hx hb dX6_isIn_7 (by decide) (fun c2 => ?_) (fun c2 => ?_)
    · have hw := hw.1 c2
      refine lv_iconst (v := 0) hx hb dX6_isIn_14 (by decide) ?_
      exact xg_irets hx hb hr rfl hlocks hB0 hP hK hN hS dX6_isIn_15 (by decide) (by decide) hw
    · have hw := hw.2 c2
      refine lv_iconst (v := 1) hx hb dX6_isIn_10 (by decide) ?_
      refine lv_goto (tgt := 15) hx hb dX6_isIn_11 (by decide) ?_
      exact xg_irets hx hb hr rfl hlocks hB0 hP hK hN hS dX6_isIn_15 (by decide) (by decide) hw
set_option maxHeartbeats 4000000 in
set_option maxRecDepth 100000 in
theorem c_X6_setRate (l : Launch) (hl9 : l.stackTraces = false) {B0 : Nat} {ad : Nat → Nat} {D : va_G} {T : Nat → ClassId} (hA : XA B0 ad) (p0 : Int32) (p1 : Int32) {h : xH} {K : Int32 → xH → Prop} (hw : w_X6_setRate p0 p1 h K) : XM l yX6_setRate wsX6_setRate ({ frames := 1, cells := 0, slots := 0, locals := 22 } : Room) B0 ad D T h [.ref (ad (60)), .int (p0), .int (p1)] xei K 0 0 := by
  unfold XM
  refine Met.ofW (cc := cX6_setRate) (maxL := 5) (ret := (some .int)) (by decide) rfl ?_
  intro p e s m args below meth c s₁ B hml hv
  obtain ⟨rfl, hB0, hP, hK, hN⟩ := hv
  have hx := B.exec
  have hb := B.bytes
  have hr := B.returns
  have hts := atoms_spec (ws := wsX6_setRate) B.pre
  have hown : s.vm.findClass RX6 = some m.cls := findClass_of_methodNamed B.named
  have hlocks := B.notSynchronized
  have iX6 : ∀ w ∈ u_ws RX6 TX6 34, w ∈ wsX6_setRate := by decide +kernel
  have f_7 := hts (.fieldLink RX6 7 "LogSpoolerModel" "burst" "I") (by decide +kernel)
  have f_13 := hts (.fieldLink RX6 13 "LogSpoolerModel" "tokenTime" "I") (by decide +kernel)
  have f_19 := hts (.fieldLink RX6 19 "LogSpoolerModel" "tokens" "[I") (by decide +kernel)
  have hS : va_S (fun q => B0 ≤ q) s.heap s.heap [] := va_S.rf
  have hl := lv_entry ([.ref (ad (60)), .int (p0), .int (p1)]) (n := 5) (Nat.le_of_ble_eq_true rfl)
  rw [lg_entry_eq]
  generalize (lg_sl ([.ref (ad (60)), .int (p0), .int (p1)]) ++ List.replicate (5 - (lg_sl ([.ref (ad (60)), .int (p0), .int (p1)])).length) Slot.unset).toArray = ls at hl ⊢
  have hl : lv_has ls 5 [(0, .ref (ad (60))), (1, .int (p0)), (2, .int (p1))] := hl
  have j_93 : ∀ (R9 : Int32 → Int32 → xH → Prop) (hR9 : ∀ (v3 : Int32) (v4 : Int32) (h : xH) (H : Heap) (locs : List Loc) (ls : Array Slot), R9 v3 v4 h → XP ad D T h H → va_S (fun q => B0 ≤ q) s.heap H locs → lv_has ls 5 [(0, .ref (ad (60))), (3, .int (v3)), (4, .int (v4))] → W p l e (headSpec wsX6_setRate ({ frames := 1, cells := 0, slots := 0, locals := 22 } : Room)).room s m ([.ref (ad (60)), .int (p0), .int (p1)] : List Value).toArray below meth c H locs 0 0 (MQ below (XQ B0 ad D T xei K) ([.ref (ad (60)), .int (p0), .int (p1)] : List Value).toArray s 0 0 (fun q => B0 ≤ q)) (F0 m 52 ls [])) (v3 : Int32) (v4 : Int32) (s1 : Int32) (s2 : Int32) (h : xH) (H : Heap) (locs : List Loc) (ls : Array Slot), w_X6_setRate_93 p0 p1 K R9 v3 v4 s1 s2 h → XP ad D T h H → va_S (fun q => B0 ≤ q) s.heap H locs → lv_has ls 5 [(0, .ref (ad (60))), (3, .int (v3)), (4, .int (v4))] → W p l e (headSpec wsX6_setRate ({ frames := 1, cells := 0, slots := 0, locals := 22 } : Room)).room s m ([.ref (ad (60)), .int (p0), .int (p1)] : List Value).toArray below meth c H locs 0 0 (MQ below (XQ B0 ad D T xei K) ([.ref (ad (60)), .int (p0), .int (p1)] : List Value).toArray s 0 0 (fun q => B0 ≤ q)) (F0 m 93 ls [.int (s2), .int (s1), .ref (ad (65))]) := by
    intro R9 hR9 v3 v4 s1 s2 h H locs ls hw hP hS hl 
    unfold w_X6_setRate_93 at hw
    obtain ⟨hi17, hw⟩ := hw
    refine xg_iast hx hb hK hP hA hS xs65 hi17 dX6_setRate_93 (fun H locs h18 eh18 hP hS => ?_)
    have hw := hw h18 eh18
    obtain ⟨x19, ex19⟩ : ∃ z : Int32, z = v4 + 1 := ⟨_, rfl⟩
    have hw := hw x19 ex19
    refine lv_iinc (v := x19) (lv' := [(4, .int (x19)), (0, .ref (ad (60))), (3, .int (v3))]) hx hb dX6_setRate_94 hl (k := 2) rfl (by rw [ex19]; rfl) (by decide) rfl (fun ls hl => ?_)
    refine lv_goto (tgt := 52) hx hb dX6_setRate_97 (by decide) ?_
    exact hR9 (v3) (x19) _ _ _ _ hw hP hS (lv_sub hl [1, 2, 0] rfl)
  have j_52 : ∀ (n : Nat) (v3 : Int32) (v4 : Int32) (h : xH) (H : Heap) (locs : List Loc) (ls : Array Slot), w_X6_setRate_52 p0 p1 K n v3 v4 h → XP ad D T h H → va_S (fun q => B0 ≤ q) s.heap H locs → lv_has ls 5 [(0, .ref (ad (60))), (3, .int (v3)), (4, .int (v4))] → W p l e (headSpec wsX6_setRate ({ frames := 1, cells := 0, slots := 0, locals := 22 } : Room)).room s m ([.ref (ad (60)), .int (p0), .int (p1)] : List Value).toArray below meth c H locs 0 0 (MQ below (XQ B0 ad D T xei K) ([.ref (ad (60)), .int (p0), .int (p1)] : List Value).toArray s 0 0 (fun q => B0 ≤ q)) (F0 m 52 ls []) := by
    intro n
    induction n with
    | zero => intro v3 v4 h H locs ls hw; exact hw.elim
    | succ n9 ih =>
      intro v3 v4 h H locs ls hw hP hS hl 
      rw [w_X6_setRate_52_s] at hw
      refine lv_iload hx hb dX6_setRate_52 (lv_at hl 2 rfl) ?_
      refine lv_bipush (v := 6) hx hb dX6_setRate_54 (by decide) ?_
      refine lv_icmp_ge (tgt := 100) hx hb dX6_setRate_56 (by decide) (fun c13 => ?_) (fun c13 => ?_)
      · have hw := hw.1 c13
        refine lv_iload_n hx hb dX6_setRate_100 rfl (lv_at hl 1 rfl) ?_
        exact xg_irets hx hb hr rfl hlocks hB0 hP hK hN hS dX6_setRate_101 (by decide) (by decide) hw
      · have hw := hw.2 c13
        refine lv_aload_n hx hb dX6_setRate_59 rfl (lv_at hl 0 rfl) ?_
        refine xg_getr (C := RX6) (TC := TX6) (N := 34) hx hb hts iX6 hown hK hP xs60 rfl 5 (by decide) f_19 (fun _ h9 => h9) rfl dX6_setRate_60 ?_
        refine lv_iload hx hb dX6_setRate_63 (lv_at hl 2 rfl) ?_
        refine lv_aload_n hx hb dX6_setRate_65 rfl (lv_at hl 0 rfl) ?_
        refine xg_getr (C := RX6) (TC := TX6) (N := 34) hx hb hts iX6 hown hK hP xs60 rfl 5 (by decide) f_19 (fun _ h9 => h9) rfl dX6_setRate_66 ?_
        refine lv_iload hx hb dX6_setRate_69 (lv_at hl 2 rfl) ?_
        obtain ⟨hi14, hw⟩ := hw
        refine xg_iald hx hb hK hP xs65 hi14 dX6_setRate_71 ?_
        refine lv_aload_n hx hb dX6_setRate_72 rfl (lv_at hl 0 rfl) ?_
        refine xg_get (C := RX6) (TC := TX6) (N := 34) hx hb hts iX6 hown hK hP xs60 rfl 2 (by decide) f_7 (fun _ h9 => h9) rfl dX6_setRate_73 ?_
        refine lv_icmp_le (tgt := 86) hx hb dX6_setRate_76 (by decide) (fun c15 => ?_) (fun c15 => ?_)
        · have hw := hw.1 c15
          refine lv_aload_n hx hb dX6_setRate_86 rfl (lv_at hl 0 rfl) ?_
          refine xg_getr (C := RX6) (TC := TX6) (N := 34) hx hb hts iX6 hown hK hP xs60 rfl 5 (by decide) f_19 (fun _ h9 => h9) rfl dX6_setRate_87 ?_
          refine lv_iload hx hb dX6_setRate_90 (lv_at hl 2 rfl) ?_
          obtain ⟨hi16, hw⟩ := hw
          refine xg_iald hx hb hK hP xs65 hi16 dX6_setRate_92 ?_
          exact j_93 _ (ih) (v3) (v4) (v4) ((h 65 v4.toNatClampNeg)) _ _ _ _ hw hP hS (lv_sub hl [0, 1, 2] rfl)
        · have hw := hw.2 c15
          refine lv_aload_n hx hb dX6_setRate_79 rfl (lv_at hl 0 rfl) ?_
          refine xg_get (C := RX6) (TC := TX6) (N := 34) hx hb hts iX6 hown hK hP xs60 rfl 2 (by decide) f_7 (fun _ h9 => h9) rfl dX6_setRate_80 ?_
          refine lv_goto (tgt := 93) hx hb dX6_setRate_83 (by decide) ?_
          exact j_93 _ (ih) (v3) (v4) (v4) ((h 60 2)) _ _ _ _ hw hP hS (lv_sub hl [0, 1, 2] rfl)
  have j_26 : ∀ (s0 : Nat) (s1 : Int32) (h : xH) (H : Heap) (locs : List Loc) (ls : Array Slot), w_X6_setRate_26 p0 p1 K s0 s1 h → XP ad D T h H → va_S (fun q => B0 ≤ q) s.heap H locs → lv_has ls 5 [(0, .ref (ad (60))), (1, .int (p0)), (2, .int (p1))] → W p l e (headSpec wsX6_setRate ({ frames := 1, cells := 0, slots := 0, locals := 22 } : Room)).room s m ([.ref (ad (60)), .int (p0), .int (p1)] : List Value).toArray below meth c H locs 0 0 (MQ below (XQ B0 ad D T xei K) ([.ref (ad (60)), .int (p0), .int (p1)] : List Value).toArray s 0 0 (fun q => B0 ≤ q)) (F0 m 26 ls [.int (s1), .ref (ad (60))]) := by
    intro s0 s1 h H locs ls hw hP hS hl 
    unfold w_X6_setRate_26 at hw
    refine xg_calli (va_runV (As := [.int (s1)]) (rest := []) ⟨hx, hb, hml, hown, hts⟩ (c_X6_holds l hl9 hA s1 hw) (cwV 1 hts gX6_setRate_X6_holds rfl rfl rfl (by decide +kernel) ⟨Nat.le_of_ble_eq_true rfl, Nat.le_of_ble_eq_true rfl⟩) (xg_preV hB0 hP hK hN hS xs60 rfl) rfl rfl hl.1 rfl (lv_room (Nat.le_of_ble_eq_true rfl)) dX6_setRate_26 ⟨Nat.le_of_ble_eq_true rfl, Nat.le_of_ble_eq_true rfl⟩) hS (fun r7 h8 H locs hw hP hS => ?_)
    refine lv_if_ne (tgt := 34) hx hb dX6_setRate_29 (by decide) (fun c9 => ?_) (fun c9 => ?_)
    · have hw := hw.2 c9
      refine lv_aload_n hx hb dX6_setRate_34 rfl (lv_at hl 0 rfl) ?_
      refine xg_get (C := RX6) (TC := TX6) (N := 34) hx hb hts iX6 hown hK hP xs60 rfl 2 (by decide) f_7 (fun _ h9 => h9) rfl dX6_setRate_35 ?_
      refine lv_topi (fun x10 ex10 => ?_)
      have hw := hw x10 ex10
      refine lv_istore_n (lv' := [(3, .int (x10)), (0, .ref (ad (60))), (1, .int (p0)), (2, .int (p1))]) hx hb dX6_setRate_38 rfl hl (by decide) rfl (fun ls hl => ?_)
      refine lv_aload_n hx hb dX6_setRate_39 rfl (lv_at hl 1 rfl) ?_
      refine lv_iload_n hx hb dX6_setRate_40 rfl (lv_at hl 2 rfl) ?_
      refine xg_put (C := RX6) (TC := TX6) (N := 34) hx hb hts iX6 tyX6 tyX6_ok nmX6 hown hK hP hA hS xs60 rfl 2 (by decide) f_7 (fun _ h9 => h9) rfl rfl (ty := .int) (by decide +kernel) rfl rfl dX6_setRate_41 (fun H locs h11 eh11 hP hS => ?_)
      have hw := hw h11 eh11
      refine lv_aload_n hx hb dX6_setRate_44 rfl (lv_at hl 1 rfl) ?_
      refine lv_iload_n hx hb dX6_setRate_45 rfl (lv_at hl 3 rfl) ?_
      refine xg_put (C := RX6) (TC := TX6) (N := 34) hx hb hts iX6 tyX6 tyX6_ok nmX6 hown hK hP hA hS xs60 rfl 3 (by decide) f_13 (fun _ h9 => h9) rfl rfl (ty := .int) (by decide +kernel) rfl rfl dX6_setRate_46 (fun H locs h12 eh12 hP hS => ?_)
      have hw := hw h12 eh12
      refine lv_iconst (v := 0) hx hb dX6_setRate_49 (by decide) ?_
      refine lv_istore (lv' := [(4, .int (0)), (3, .int (x10)), (0, .ref (ad (60))), (1, .int (p0)), (2, .int (p1))]) hx hb dX6_setRate_50 hl (by decide) rfl (fun ls hl => ?_)
      obtain ⟨n9, hw⟩ := hw
      exact j_52 n9 (x10) (0) _ _ _ _ hw hP hS (lv_sub hl [2, 1, 0] rfl)
    · have hw := hw.1 c9
      refine lv_iconst (v := 0) hx hb dX6_setRate_32 (by decide) ?_
      exact xg_irets hx hb hr rfl hlocks hB0 hP hK hN hS dX6_setRate_33 (by decide) (by decide) hw
  have j_25 : ∀ (s0 : Nat) (h : xH) (H : Heap) (locs : List Loc) (ls : Array Slot), w_X6_setRate_25 p0 p1 K s0 h → XP ad D T h H → va_S (fun q => B0 ≤ q) s.heap H locs → lv_has ls 5 [(0, .ref (ad (60))), (1, .int (p0)), (2, .int (p1))] → W p l e (headSpec wsX6_setRate ({ frames := 1, cells := 0, slots := 0, locals := 22 } : Room)).room s m ([.ref (ad (60)), .int (p0), .int (p1)] : List Value).toArray below meth c H locs 0 0 (MQ below (XQ B0 ad D T xei K) ([.ref (ad (60)), .int (p0), .int (p1)] : List Value).toArray s 0 0 (fun q => B0 ≤ q)) (F0 m 25 ls [.ref (ad (60))]) := by
    intro s0 h H locs ls hw hP hS hl 
    unfold w_X6_setRate_25 at hw
    refine lv_iconst (v := 1) hx hb dX6_setRate_25 (by decide) ?_
    exact j_26 (60) (1) _ _ _ _ hw hP hS (lv_sub hl [0, 1, 2] rfl)
  unfold w_X6_setRate at hw
  refine lv_aload_n hx hb dX6_setRate_0 rfl (lv_at hl 0 rfl) ?_
  refine lv_iload_n hx hb dX6_setRate_1 rfl (lv_at hl 1 rfl) ?_
  refine lv_iconst (v := 1) hx hb dX6_setRate_2 (by decide) ?_
  refine lv_bipush (v := 50) hx hb dX6_setRate_3 (by decide) ?_
  refine xg_calli (va_runS (As := [.int (p0), .int (1), .int (50)]) (rest := [.ref (ad (60))]) ⟨hx, hb, hml, hown, hts⟩ (c_X6_isIn l hl9 hA p0 (1 : Int32) (50 : Int32) hw) (va_cwS 3 hts gX6_setRate_X6_isIn rfl rfl rfl (by decide +kernel) ⟨Nat.le_of_ble_eq_true rfl, Nat.le_of_ble_eq_true rfl⟩) (xg_preS hB0 hP hK hN hS) rfl rfl hl.1 rfl (lv_room (Nat.le_of_ble_eq_true rfl)) dX6_setRate_5 ⟨Nat.le_of_ble_eq_true rfl, Nat.le_of_ble_eq_true rfl⟩) hS (fun r1 h2 H locs hw hP hS => ?_)
  refine lv_if_eq (tgt := 25) hx hb dX6_setRate_8 (by decide) (fun c3 => ?_) (fun c3 => ?_)
  · have hw := hw.1 c3
    exact j_25 (60) _ _ _ _ hw hP hS (lv_sub hl [0, 1, 2] rfl)
  · have hw := hw.2 c3
    refine lv_iload_n hx hb dX6_setRate_11 rfl (lv_at hl 2 rfl) ?_
    refine lv_iconst (v := 1) hx hb dX6_setRate_12 (by decide) ?_
    refine lv_bipush (v := 60) hx hb dX6_setRate_13 (by decide) ?_
    refine xg_calli (va_runS (As := [.int (p1), .int (1), .int (60)]) (rest := [.ref (ad (60))]) ⟨hx, hb, hml, hown, hts⟩ (c_X6_isIn l hl9 hA p1 (1 : Int32) (60 : Int32) hw) (va_cwS 3 hts gX6_setRate_X6_isIn rfl rfl rfl (by decide +kernel) ⟨Nat.le_of_ble_eq_true rfl, Nat.le_of_ble_eq_true rfl⟩) (xg_preS hB0 hP hK hN hS) rfl rfl hl.1 rfl (lv_room (Nat.le_of_ble_eq_true rfl)) dX6_setRate_15 ⟨Nat.le_of_ble_eq_true rfl, Nat.le_of_ble_eq_true rfl⟩) hS (fun r4 h5 H locs hw hP hS => ?_)
    refine lv_if_eq (tgt := 25) hx hb dX6_setRate_18 (by decide) (fun c6 => ?_) (fun c6 => ?_)
    · have hw := hw.1 c6
      exact j_25 (60) _ _ _ _ hw hP hS (lv_sub hl [0, 1, 2] rfl)
    · have hw := hw.2 c6
      refine lv_iconst (v := 0) hx hb dX6_setRate_21 (by decide) ?_
      refine lv_goto (tgt := 26) hx hb dX6_setRate_22 (by decide) ?_
      exact j_26 (60) (0) _ _ _ _ hw hP hS (lv_sub hl [0, 1, 2] rfl)
set_option maxHeartbeats 4000000 in
set_option maxRecDepth 100000 in
theorem c_X6_setFold (l : Launch) (hl9 : l.stackTraces = false) {B0 : Nat} {ad : Nat → Nat} {D : va_G} {T : Nat → ClassId} (hA : XA B0 ad) (p0 : Int32) {h : xH} {K : Int32 → xH → Prop} (hw : w_X6_setFold p0 h K) : XM l yX6_setFold wsX6_setFold ({ frames := 1, cells := 0, slots := 0, locals := 22 } : Room) B0 ad D T h [.ref (ad (60)), .int (p0)] xei K 0 0 := by
  unfold XM
  refine Met.ofW (cc := cX6_setFold) (maxL := 3) (ret := (some .int)) (by decide) rfl ?_
  intro p e s m args below meth c s₁ B hml hv
  obtain ⟨rfl, hB0, hP, hK, hN⟩ := hv
  have hx := B.exec
  have hb := B.bytes
  have hr := B.returns
  have hts := atoms_spec (ws := wsX6_setFold) B.pre
  have hown : s.vm.findClass RX6 = some m.cls := findClass_of_methodNamed B.named
  have hlocks := B.notSynchronized
  have iX6 : ∀ w ∈ u_ws RX6 TX6 34, w ∈ wsX6_setFold := by decide +kernel
  have f_16 := hts (.fieldLink RX6 16 "LogSpoolerModel" "fold" "I") (by decide +kernel)
  have hS : va_S (fun q => B0 ≤ q) s.heap s.heap [] := va_S.rf
  have hl := lv_entry ([.ref (ad (60)), .int (p0)]) (n := 3) (Nat.le_of_ble_eq_true rfl)
  rw [lg_entry_eq]
  generalize (lg_sl ([.ref (ad (60)), .int (p0)]) ++ List.replicate (3 - (lg_sl ([.ref (ad (60)), .int (p0)])).length) Slot.unset).toArray = ls at hl ⊢
  have hl : lv_has ls 3 [(0, .ref (ad (60))), (1, .int (p0))] := hl
  have j_16 : ∀ (s0 : Nat) (s1 : Int32) (h : xH) (H : Heap) (locs : List Loc) (ls : Array Slot), w_X6_setFold_16 p0 K s0 s1 h → XP ad D T h H → va_S (fun q => B0 ≤ q) s.heap H locs → lv_has ls 3 [(0, .ref (ad (60))), (1, .int (p0))] → W p l e (headSpec wsX6_setFold ({ frames := 1, cells := 0, slots := 0, locals := 22 } : Room)).room s m ([.ref (ad (60)), .int (p0)] : List Value).toArray below meth c H locs 0 0 (MQ below (XQ B0 ad D T xei K) ([.ref (ad (60)), .int (p0)] : List Value).toArray s 0 0 (fun q => B0 ≤ q)) (F0 m 16 ls [.int (s1), .ref (ad (60))]) := by
    intro s0 s1 h H locs ls hw hP hS hl 
    unfold w_X6_setFold_16 at hw
    refine xg_calli (va_runV (As := [.int (s1)]) (rest := []) ⟨hx, hb, hml, hown, hts⟩ (c_X6_holds l hl9 hA s1 hw) (cwV 1 hts gX6_setFold_X6_holds rfl rfl rfl (by decide +kernel) ⟨Nat.le_of_ble_eq_true rfl, Nat.le_of_ble_eq_true rfl⟩) (xg_preV hB0 hP hK hN hS xs60 rfl) rfl rfl hl.1 rfl (lv_room (Nat.le_of_ble_eq_true rfl)) dX6_setFold_16 ⟨Nat.le_of_ble_eq_true rfl, Nat.le_of_ble_eq_true rfl⟩) hS (fun r4 h5 H locs hw hP hS => ?_)
    refine lv_if_ne (tgt := 24) hx hb dX6_setFold_19 (by decide) (fun c6 => ?_) (fun c6 => ?_)
    · have hw := hw.2 c6
      refine lv_aload_n hx hb dX6_setFold_24 rfl (lv_at hl 0 rfl) ?_
      refine xg_get (C := RX6) (TC := TX6) (N := 34) hx hb hts iX6 hown hK hP xs60 rfl 4 (by decide) f_16 (fun _ h9 => h9) rfl dX6_setFold_25 ?_
      refine lv_topi (fun x7 ex7 => ?_)
      have hw := hw x7 ex7
      refine lv_istore_n (lv' := [(2, .int (x7)), (0, .ref (ad (60))), (1, .int (p0))]) hx hb dX6_setFold_28 rfl hl (by decide) rfl (fun ls hl => ?_)
      refine lv_aload_n hx hb dX6_setFold_29 rfl (lv_at hl 1 rfl) ?_
      refine lv_iload_n hx hb dX6_setFold_30 rfl (lv_at hl 2 rfl) ?_
      refine xg_put (C := RX6) (TC := TX6) (N := 34) hx hb hts iX6 tyX6 tyX6_ok nmX6 hown hK hP hA hS xs60 rfl 4 (by decide) f_16 (fun _ h9 => h9) rfl rfl (ty := .int) (by decide +kernel) rfl rfl dX6_setFold_31 (fun H locs h8 eh8 hP hS => ?_)
      have hw := hw h8 eh8
      refine lv_iload_n hx hb dX6_setFold_34 rfl (lv_at hl 0 rfl) ?_
      exact xg_irets hx hb hr rfl hlocks hB0 hP hK hN hS dX6_setFold_35 (by decide) (by decide) hw
    · have hw := hw.1 c6
      refine lv_iconst (v := 0) hx hb dX6_setFold_22 (by decide) ?_
      exact xg_irets hx hb hr rfl hlocks hB0 hP hK hN hS dX6_setFold_23 (by decide) (by decide) hw
  unfold w_X6_setFold at hw
  refine lv_aload_n hx hb dX6_setFold_0 rfl (lv_at hl 0 rfl) ?_
  refine lv_iload_n hx hb dX6_setFold_1 rfl (lv_at hl 1 rfl) ?_
  refine lv_iconst (v := 0) hx hb dX6_setFold_2 (by decide) ?_
  refine lv_bipush (v := 100) hx hb dX6_setFold_3 (by decide) ?_
  refine xg_calli (va_runS (As := [.int (p0), .int (0), .int (100)]) (rest := [.ref (ad (60))]) ⟨hx, hb, hml, hown, hts⟩ (c_X6_isIn l hl9 hA p0 (0 : Int32) (100 : Int32) hw) (va_cwS 3 hts gX6_setFold_X6_isIn rfl rfl rfl (by decide +kernel) ⟨Nat.le_of_ble_eq_true rfl, Nat.le_of_ble_eq_true rfl⟩) (xg_preS hB0 hP hK hN hS) rfl rfl hl.1 rfl (lv_room (Nat.le_of_ble_eq_true rfl)) dX6_setFold_5 ⟨Nat.le_of_ble_eq_true rfl, Nat.le_of_ble_eq_true rfl⟩) hS (fun r1 h2 H locs hw hP hS => ?_)
  refine lv_if_eq (tgt := 15) hx hb dX6_setFold_8 (by decide) (fun c3 => ?_) (fun c3 => ?_)
  · have hw := hw.1 c3
    refine lv_iconst (v := 1) hx hb dX6_setFold_15 (by decide) ?_
    exact j_16 (60) (1) _ _ _ _ hw hP hS (lv_sub hl [0, 1] rfl)
  · have hw := hw.2 c3
    refine lv_iconst (v := 0) hx hb dX6_setFold_11 (by decide) ?_
    refine lv_goto (tgt := 16) hx hb dX6_setFold_12 (by decide) ?_
    exact j_16 (60) (0) _ _ _ _ hw hP hS (lv_sub hl [0, 1] rfl)
set_option maxHeartbeats 4000000 in
set_option maxRecDepth 100000 in
theorem c_X6_setRule (l : Launch) (hl9 : l.stackTraces = false) {B0 : Nat} {ad : Nat → Nat} {D : va_G} {T : Nat → ClassId} (hA : XA B0 ad) (p0 : Int32) (p1 : Int32) (p2 : Int32) (p3 : Int32) (p4 : Int32) {h : xH} {K : Int32 → xH → Prop} (hw : w_X6_setRule p0 p1 p2 p3 p4 h K) : XM l yX6_setRule wsX6_setRule ({ frames := 1, cells := 0, slots := 0, locals := 22 } : Room) B0 ad D T h [.ref (ad (60)), .int (p0), .int (p1), .int (p2), .int (p3), .int (p4)] xei K 0 0 := by
  unfold XM
  refine Met.ofW (cc := cX6_setRule) (maxL := 10) (ret := (some .int)) (by decide) rfl ?_
  intro p e s m args below meth c s₁ B hml hv
  obtain ⟨rfl, hB0, hP, hK, hN⟩ := hv
  have hx := B.exec
  have hb := B.bytes
  have hr := B.returns
  have hts := atoms_spec (ws := wsX6_setRule) B.pre
  have hown : s.vm.findClass RX6 = some m.cls := findClass_of_methodNamed B.named
  have hlocks := B.notSynchronized
  have iX6 : ∀ w ∈ u_ws RX6 TX6 34, w ∈ wsX6_setRule := by decide +kernel
  have f_35 := hts (.fieldLink RX6 35 "LogSpoolerModel" "isSet" "[Z") (by decide +kernel)
  have f_39 := hts (.fieldLink RX6 39 "LogSpoolerModel" "facilities" "[I") (by decide +kernel)
  have f_42 := hts (.fieldLink RX6 42 "LogSpoolerModel" "severities" "[I") (by decide +kernel)
  have f_45 := hts (.fieldLink RX6 45 "LogSpoolerModel" "senders" "[I") (by decide +kernel)
  have f_48 := hts (.fieldLink RX6 48 "LogSpoolerModel" "targets" "[I") (by decide +kernel)
  have hS : va_S (fun q => B0 ≤ q) s.heap s.heap [] := va_S.rf
  have hl := lv_entry ([.ref (ad (60)), .int (p0), .int (p1), .int (p2), .int (p3), .int (p4)]) (n := 10) (Nat.le_of_ble_eq_true rfl)
  rw [lg_entry_eq]
  generalize (lg_sl ([.ref (ad (60)), .int (p0), .int (p1), .int (p2), .int (p3), .int (p4)]) ++ List.replicate (10 - (lg_sl ([.ref (ad (60)), .int (p0), .int (p1), .int (p2), .int (p3), .int (p4)])).length) Slot.unset).toArray = ls at hl ⊢
  have hl : lv_has ls 10 [(0, .ref (ad (60))), (1, .int (p0)), (2, .int (p1)), (3, .int (p2)), (4, .int (p3)), (5, .int (p4))] := hl
  have j_159 : ∀ (R9 : Int32 → Int32 → xH → Prop) (hR9 : ∀ (v8 : Int32) (v9 : Int32) (h : xH) (H : Heap) (locs : List Loc) (ls : Array Slot), R9 v8 v9 h → XP ad D T h H → va_S (fun q => B0 ≤ q) s.heap H locs → lv_has ls 10 [(0, .ref (ad (60))), (8, .int (v8)), (9, .int (v9))] → W p l e (headSpec wsX6_setRule ({ frames := 1, cells := 0, slots := 0, locals := 22 } : Room)).room s m ([.ref (ad (60)), .int (p0), .int (p1), .int (p2), .int (p3), .int (p4)] : List Value).toArray below meth c H locs 0 0 (MQ below (XQ B0 ad D T xei K) ([.ref (ad (60)), .int (p0), .int (p1), .int (p2), .int (p3), .int (p4)] : List Value).toArray s 0 0 (fun q => B0 ≤ q)) (F0 m 135 ls [])) (v9 : Int32) (s0 : Int32) (s1 : Int32) (h : xH) (H : Heap) (locs : List Loc) (ls : Array Slot), w_X6_setRule_159 p0 p1 p2 p3 p4 K R9 v9 s0 s1 h → XP ad D T h H → va_S (fun q => B0 ≤ q) s.heap H locs → lv_has ls 10 [(0, .ref (ad (60))), (9, .int (v9))] → W p l e (headSpec wsX6_setRule ({ frames := 1, cells := 0, slots := 0, locals := 22 } : Room)).room s m ([.ref (ad (60)), .int (p0), .int (p1), .int (p2), .int (p3), .int (p4)] : List Value).toArray below meth c H locs 0 0 (MQ below (XQ B0 ad D T xei K) ([.ref (ad (60)), .int (p0), .int (p1), .int (p2), .int (p3), .int (p4)] : List Value).toArray s 0 0 (fun q => B0 ≤ q)) (F0 m 159 ls [.int (s1), .int (s0)]) := by
    intro R9 hR9 v9 s0 s1 h H locs ls hw hP hS hl 
    unfold w_X6_setRule_159 at hw
    refine lv_iadd hx hb dX6_setRule_159 ?_
    refine lv_topi (fun x34 ex34 => ?_)
    have hw := hw x34 ex34
    refine lv_istore (lv' := [(8, .int (x34)), (0, .ref (ad (60))), (9, .int (v9))]) hx hb dX6_setRule_160 hl (by decide) rfl (fun ls hl => ?_)
    obtain ⟨x35, ex35⟩ : ∃ z : Int32, z = v9 + 1 := ⟨_, rfl⟩
    have hw := hw x35 ex35
    refine lv_iinc (v := x35) (lv' := [(9, .int (x35)), (8, .int (x34)), (0, .ref (ad (60)))]) hx hb dX6_setRule_162 hl (k := 2) rfl (by rw [ex35]; rfl) (by decide) rfl (fun ls hl => ?_)
    refine lv_goto (tgt := 135) hx hb dX6_setRule_165 (by decide) ?_
    exact hR9 (x34) (x35) _ _ _ _ hw hP hS (lv_sub hl [2, 1, 0] rfl)
  have j_135 : ∀ (n : Nat) (v8 : Int32) (v9 : Int32) (h : xH) (H : Heap) (locs : List Loc) (ls : Array Slot), w_X6_setRule_135 p0 p1 p2 p3 p4 K n v8 v9 h → XP ad D T h H → va_S (fun q => B0 ≤ q) s.heap H locs → lv_has ls 10 [(0, .ref (ad (60))), (8, .int (v8)), (9, .int (v9))] → W p l e (headSpec wsX6_setRule ({ frames := 1, cells := 0, slots := 0, locals := 22 } : Room)).room s m ([.ref (ad (60)), .int (p0), .int (p1), .int (p2), .int (p3), .int (p4)] : List Value).toArray below meth c H locs 0 0 (MQ below (XQ B0 ad D T xei K) ([.ref (ad (60)), .int (p0), .int (p1), .int (p2), .int (p3), .int (p4)] : List Value).toArray s 0 0 (fun q => B0 ≤ q)) (F0 m 135 ls []) := by
    intro n
    induction n with
    | zero => intro v8 v9 h H locs ls hw; exact hw.elim
    | succ n9 ih =>
      intro v8 v9 h H locs ls hw hP hS hl 
      rw [w_X6_setRule_135_s] at hw
      refine lv_iload hx hb dX6_setRule_135 (lv_at hl 2 rfl) ?_
      refine lv_bipush (v := 6) hx hb dX6_setRule_137 (by decide) ?_
      refine lv_icmp_ge (tgt := 168) hx hb dX6_setRule_139 (by decide) (fun c31 => ?_) (fun c31 => ?_)
      · have hw := hw.1 c31
        refine lv_iload hx hb dX6_setRule_168 (lv_at hl 1 rfl) ?_
        exact xg_irets hx hb hr rfl hlocks hB0 hP hK hN hS dX6_setRule_170 (by decide) (by decide) hw
      · have hw := hw.2 c31
        refine lv_iload hx hb dX6_setRule_142 (lv_at hl 1 rfl) ?_
        refine lv_aload_n hx hb dX6_setRule_144 rfl (lv_at hl 0 rfl) ?_
        refine xg_getr (C := RX6) (TC := TX6) (N := 34) hx hb hts iX6 hown hK hP xs60 rfl 10 (by decide) f_35 (fun _ h9 => h9) rfl dX6_setRule_145 ?_
        refine lv_iload hx hb dX6_setRule_148 (lv_at hl 2 rfl) ?_
        obtain ⟨hi32, hw⟩ := hw
        refine xg_zald hx hb hK hP xs70 hi32 dX6_setRule_150 ?_
        refine lv_if_eq (tgt := 158) hx hb dX6_setRule_151 (by decide) (fun c33 => ?_) (fun c33 => ?_)
        · have hw := hw.1 c33
          refine lv_iconst (v := 0) hx hb dX6_setRule_158 (by decide) ?_
          exact j_159 _ (ih) (v9) (v8) (0) _ _ _ _ hw hP hS (lv_sub hl [0, 2] rfl)
        · have hw := hw.2 c33
          refine lv_iconst (v := 1) hx hb dX6_setRule_154 (by decide) ?_
          refine lv_goto (tgt := 159) hx hb dX6_setRule_155 (by decide) ?_
          exact j_159 _ (ih) (v9) (v8) (1) _ _ _ _ hw hP hS (lv_sub hl [0, 2] rfl)
  have j_84 : ∀ (s0 : Nat) (s1 : Int32) (h : xH) (H : Heap) (locs : List Loc) (ls : Array Slot), w_X6_setRule_84 p0 p1 p2 p3 p4 K s0 s1 h → XP ad D T h H → va_S (fun q => B0 ≤ q) s.heap H locs → lv_has ls 10 [(0, .ref (ad (60))), (1, .int (p0)), (2, .int (p1)), (3, .int (p2)), (4, .int (p3)), (5, .int (p4))] → W p l e (headSpec wsX6_setRule ({ frames := 1, cells := 0, slots := 0, locals := 22 } : Room)).room s m ([.ref (ad (60)), .int (p0), .int (p1), .int (p2), .int (p3), .int (p4)] : List Value).toArray below meth c H locs 0 0 (MQ below (XQ B0 ad D T xei K) ([.ref (ad (60)), .int (p0), .int (p1), .int (p2), .int (p3), .int (p4)] : List Value).toArray s 0 0 (fun q => B0 ≤ q)) (F0 m 84 ls [.int (s1), .ref (ad (60))]) := by
    intro s0 s1 h H locs ls hw hP hS hl 
    unfold w_X6_setRule_84 at hw
    refine xg_calli (va_runV (As := [.int (s1)]) (rest := []) ⟨hx, hb, hml, hown, hts⟩ (c_X6_holds l hl9 hA s1 hw) (cwV 1 hts gX6_setRule_X6_holds rfl rfl rfl (by decide +kernel) ⟨Nat.le_of_ble_eq_true rfl, Nat.le_of_ble_eq_true rfl⟩) (xg_preV hB0 hP hK hN hS xs60 rfl) rfl rfl hl.1 rfl (lv_room (Nat.le_of_ble_eq_true rfl)) dX6_setRule_84 ⟨Nat.le_of_ble_eq_true rfl, Nat.le_of_ble_eq_true rfl⟩) hS (fun r18 h19 H locs hw hP hS => ?_)
    refine lv_if_ne (tgt := 92) hx hb dX6_setRule_87 (by decide) (fun c20 => ?_) (fun c20 => ?_)
    · have hw := hw.2 c20
      refine lv_aload_n hx hb dX6_setRule_92 rfl (lv_at hl 0 rfl) ?_
      refine xg_getr (C := RX6) (TC := TX6) (N := 34) hx hb hts iX6 hown hK hP xs60 rfl 10 (by decide) f_35 (fun _ h9 => h9) rfl dX6_setRule_93 ?_
      refine lv_iload_n hx hb dX6_setRule_96 rfl (lv_at hl 1 rfl) ?_
      refine lv_iconst (v := 1) hx hb dX6_setRule_97 (by decide) ?_
      obtain ⟨hi21, hw⟩ := hw
      refine xg_zast hx hb hK hP hA hS xs70 (by decide) hi21 dX6_setRule_98 (fun H locs h22 eh22 hP hS => ?_)
      have hw := hw h22 eh22
      refine lv_aload_n hx hb dX6_setRule_99 rfl (lv_at hl 0 rfl) ?_
      refine xg_getr (C := RX6) (TC := TX6) (N := 34) hx hb hts iX6 hown hK hP xs60 rfl 11 (by decide) f_39 (fun _ h9 => h9) rfl dX6_setRule_100 ?_
      refine lv_iload_n hx hb dX6_setRule_103 rfl (lv_at hl 1 rfl) ?_
      refine lv_iload_n hx hb dX6_setRule_104 rfl (lv_at hl 2 rfl) ?_
      obtain ⟨hi23, hw⟩ := hw
      refine xg_iast hx hb hK hP hA hS xs71 hi23 dX6_setRule_105 (fun H locs h24 eh24 hP hS => ?_)
      have hw := hw h24 eh24
      refine lv_aload_n hx hb dX6_setRule_106 rfl (lv_at hl 0 rfl) ?_
      refine xg_getr (C := RX6) (TC := TX6) (N := 34) hx hb hts iX6 hown hK hP xs60 rfl 12 (by decide) f_42 (fun _ h9 => h9) rfl dX6_setRule_107 ?_
      refine lv_iload_n hx hb dX6_setRule_110 rfl (lv_at hl 1 rfl) ?_
      refine lv_iload_n hx hb dX6_setRule_111 rfl (lv_at hl 3 rfl) ?_
      obtain ⟨hi25, hw⟩ := hw
      refine xg_iast hx hb hK hP hA hS xs72 hi25 dX6_setRule_112 (fun H locs h26 eh26 hP hS => ?_)
      have hw := hw h26 eh26
      refine lv_aload_n hx hb dX6_setRule_113 rfl (lv_at hl 0 rfl) ?_
      refine xg_getr (C := RX6) (TC := TX6) (N := 34) hx hb hts iX6 hown hK hP xs60 rfl 13 (by decide) f_45 (fun _ h9 => h9) rfl dX6_setRule_114 ?_
      refine lv_iload_n hx hb dX6_setRule_117 rfl (lv_at hl 1 rfl) ?_
      refine lv_iload hx hb dX6_setRule_118 (lv_at hl 4 rfl) ?_
      obtain ⟨hi27, hw⟩ := hw
      refine xg_iast hx hb hK hP hA hS xs73 hi27 dX6_setRule_120 (fun H locs h28 eh28 hP hS => ?_)
      have hw := hw h28 eh28
      refine lv_aload_n hx hb dX6_setRule_121 rfl (lv_at hl 0 rfl) ?_
      refine xg_getr (C := RX6) (TC := TX6) (N := 34) hx hb hts iX6 hown hK hP xs60 rfl 14 (by decide) f_48 (fun _ h9 => h9) rfl dX6_setRule_122 ?_
      refine lv_iload_n hx hb dX6_setRule_125 rfl (lv_at hl 1 rfl) ?_
      refine lv_iload hx hb dX6_setRule_126 (lv_at hl 5 rfl) ?_
      obtain ⟨hi29, hw⟩ := hw
      refine xg_iast hx hb hK hP hA hS xs74 hi29 dX6_setRule_128 (fun H locs h30 eh30 hP hS => ?_)
      have hw := hw h30 eh30
      refine lv_iconst (v := 0) hx hb dX6_setRule_129 (by decide) ?_
      refine lv_istore (lv' := [(8, .int (0)), (0, .ref (ad (60))), (1, .int (p0)), (2, .int (p1)), (3, .int (p2)), (4, .int (p3)), (5, .int (p4))]) hx hb dX6_setRule_130 hl (by decide) rfl (fun ls hl => ?_)
      refine lv_iconst (v := 0) hx hb dX6_setRule_132 (by decide) ?_
      refine lv_istore (lv' := [(9, .int (0)), (8, .int (0)), (0, .ref (ad (60))), (1, .int (p0)), (2, .int (p1)), (3, .int (p2)), (4, .int (p3)), (5, .int (p4))]) hx hb dX6_setRule_133 hl (by decide) rfl (fun ls hl => ?_)
      obtain ⟨n9, hw⟩ := hw
      exact j_135 n9 (0) (0) _ _ _ _ hw hP hS (lv_sub hl [2, 1, 0] rfl)
    · have hw := hw.1 c20
      refine lv_iconst (v := 0) hx hb dX6_setRule_90 (by decide) ?_
      exact xg_irets hx hb hr rfl hlocks hB0 hP hK hN hS dX6_setRule_91 (by decide) (by decide) hw
  have j_62 : ∀ (v6 : Int32) (s0 : Int32) (h : xH) (H : Heap) (locs : List Loc) (ls : Array Slot), w_X6_setRule_62 p0 p1 p2 p3 p4 K v6 s0 h → XP ad D T h H → va_S (fun q => B0 ≤ q) s.heap H locs → lv_has ls 10 [(0, .ref (ad (60))), (1, .int (p0)), (2, .int (p1)), (3, .int (p2)), (4, .int (p3)), (5, .int (p4)), (6, .int (v6))] → W p l e (headSpec wsX6_setRule ({ frames := 1, cells := 0, slots := 0, locals := 22 } : Room)).room s m ([.ref (ad (60)), .int (p0), .int (p1), .int (p2), .int (p3), .int (p4)] : List Value).toArray below meth c H locs 0 0 (MQ below (XQ B0 ad D T xei K) ([.ref (ad (60)), .int (p0), .int (p1), .int (p2), .int (p3), .int (p4)] : List Value).toArray s 0 0 (fun q => B0 ≤ q)) (F0 m 62 ls [.int (s0)]) := by
    intro v6 s0 h H locs ls hw hP hS hl 
    unfold w_X6_setRule_62 at hw
    refine lv_istore (lv' := [(7, .int (s0)), (0, .ref (ad (60))), (1, .int (p0)), (2, .int (p1)), (3, .int (p2)), (4, .int (p3)), (5, .int (p4)), (6, .int (v6))]) hx hb dX6_setRule_62 hl (by decide) rfl (fun ls hl => ?_)
    refine lv_aload_n hx hb dX6_setRule_64 rfl (lv_at hl 1 rfl) ?_
    refine lv_iload hx hb dX6_setRule_65 (lv_at hl 7 rfl) ?_
    refine lv_if_ne (tgt := 74) hx hb dX6_setRule_67 (by decide) (fun c16 => ?_) (fun c16 => ?_)
    · have hw := hw.2 c16
      refine lv_iload hx hb dX6_setRule_74 (lv_at hl 0 rfl) ?_
      refine lv_if_eq (tgt := 83) hx hb dX6_setRule_76 (by decide) (fun c17 => ?_) (fun c17 => ?_)
      · have hw := hw.1 c17
        refine lv_iconst (v := 2) hx hb dX6_setRule_83 (by decide) ?_
        exact j_84 (60) (2) _ _ _ _ hw hP hS (lv_sub hl [1, 2, 3, 4, 5, 6] rfl)
      · have hw := hw.2 c17
        refine lv_iconst (v := 0) hx hb dX6_setRule_79 (by decide) ?_
        refine lv_goto (tgt := 84) hx hb dX6_setRule_80 (by decide) ?_
        exact j_84 (60) (0) _ _ _ _ hw hP hS (lv_sub hl [1, 2, 3, 4, 5, 6] rfl)
    · have hw := hw.1 c16
      refine lv_iconst (v := 1) hx hb dX6_setRule_70 (by decide) ?_
      refine lv_goto (tgt := 84) hx hb dX6_setRule_71 (by decide) ?_
      exact j_84 (60) (1) _ _ _ _ hw hP hS (lv_sub hl [1, 2, 3, 4, 5, 6] rfl)
  have j_61 : ∀ (v6 : Int32) (h : xH) (H : Heap) (locs : List Loc) (ls : Array Slot), w_X6_setRule_61 p0 p1 p2 p3 p4 K v6 h → XP ad D T h H → va_S (fun q => B0 ≤ q) s.heap H locs → lv_has ls 10 [(0, .ref (ad (60))), (1, .int (p0)), (2, .int (p1)), (3, .int (p2)), (4, .int (p3)), (5, .int (p4)), (6, .int (v6))] → W p l e (headSpec wsX6_setRule ({ frames := 1, cells := 0, slots := 0, locals := 22 } : Room)).room s m ([.ref (ad (60)), .int (p0), .int (p1), .int (p2), .int (p3), .int (p4)] : List Value).toArray below meth c H locs 0 0 (MQ below (XQ B0 ad D T xei K) ([.ref (ad (60)), .int (p0), .int (p1), .int (p2), .int (p3), .int (p4)] : List Value).toArray s 0 0 (fun q => B0 ≤ q)) (F0 m 61 ls []) := by
    intro v6 h H locs ls hw hP hS hl 
    unfold w_X6_setRule_61 at hw
    refine lv_iconst (v := 0) hx hb dX6_setRule_61 (by decide) ?_
    exact j_62 (v6) (0) _ _ _ _ hw hP hS (lv_sub hl [0, 1, 2, 3, 4, 5, 6] rfl)
  have j_24 : ∀ (s0 : Int32) (h : xH) (H : Heap) (locs : List Loc) (ls : Array Slot), w_X6_setRule_24 p0 p1 p2 p3 p4 K s0 h → XP ad D T h H → va_S (fun q => B0 ≤ q) s.heap H locs → lv_has ls 10 [(0, .ref (ad (60))), (1, .int (p0)), (2, .int (p1)), (3, .int (p2)), (4, .int (p3)), (5, .int (p4))] → W p l e (headSpec wsX6_setRule ({ frames := 1, cells := 0, slots := 0, locals := 22 } : Room)).room s m ([.ref (ad (60)), .int (p0), .int (p1), .int (p2), .int (p3), .int (p4)] : List Value).toArray below meth c H locs 0 0 (MQ below (XQ B0 ad D T xei K) ([.ref (ad (60)), .int (p0), .int (p1), .int (p2), .int (p3), .int (p4)] : List Value).toArray s 0 0 (fun q => B0 ≤ q)) (F0 m 24 ls [.int (s0)]) := by
    intro s0 h H locs ls hw hP hS hl 
    unfold w_X6_setRule_24 at hw
    refine lv_istore (lv' := [(6, .int (s0)), (0, .ref (ad (60))), (1, .int (p0)), (2, .int (p1)), (3, .int (p2)), (4, .int (p3)), (5, .int (p4))]) hx hb dX6_setRule_24 hl (by decide) rfl (fun ls hl => ?_)
    refine lv_iload_n hx hb dX6_setRule_26 rfl (lv_at hl 3 rfl) ?_
    refine lv_iconst (v := 0) hx hb dX6_setRule_27 (by decide) ?_
    refine lv_sipush (v := 255) hx hb dX6_setRule_28 (by decide) ?_
    refine xg_calli (va_runS (As := [.int (p1), .int (0), .int (255)]) (rest := []) ⟨hx, hb, hml, hown, hts⟩ (c_X6_isIn l hl9 hA p1 (0 : Int32) (255 : Int32) hw) (va_cwS 3 hts gX6_setRule_X6_isIn rfl rfl rfl (by decide +kernel) ⟨Nat.le_of_ble_eq_true rfl, Nat.le_of_ble_eq_true rfl⟩) (xg_preS hB0 hP hK hN hS) rfl rfl hl.1 rfl (lv_room (Nat.le_of_ble_eq_true rfl)) dX6_setRule_31 ⟨Nat.le_of_ble_eq_true rfl, Nat.le_of_ble_eq_true rfl⟩) hS (fun r7 h8 H locs hw hP hS => ?_)
    refine lv_if_eq (tgt := 61) hx hb dX6_setRule_34 (by decide) (fun c9 => ?_) (fun c9 => ?_)
    · have hw := hw.1 c9
      exact j_61 (s0) _ _ _ _ hw hP hS (lv_sub hl [1, 2, 3, 4, 5, 6, 0] rfl)
    · have hw := hw.2 c9
      refine lv_iload_n hx hb dX6_setRule_37 rfl (lv_at hl 4 rfl) ?_
      refine lv_iconst (v := 0) hx hb dX6_setRule_38 (by decide) ?_
      refine lv_bipush (v := 7) hx hb dX6_setRule_39 (by decide) ?_
      refine xg_calli (va_runS (As := [.int (p2), .int (0), .int (7)]) (rest := []) ⟨hx, hb, hml, hown, hts⟩ (c_X6_isIn l hl9 hA p2 (0 : Int32) (7 : Int32) hw) (va_cwS 3 hts gX6_setRule_X6_isIn rfl rfl rfl (by decide +kernel) ⟨Nat.le_of_ble_eq_true rfl, Nat.le_of_ble_eq_true rfl⟩) (xg_preS hB0 hP hK hN hS) rfl rfl hl.1 rfl (lv_room (Nat.le_of_ble_eq_true rfl)) dX6_setRule_41 ⟨Nat.le_of_ble_eq_true rfl, Nat.le_of_ble_eq_true rfl⟩) hS (fun r10 h11 H locs hw hP hS => ?_)
      refine lv_if_eq (tgt := 61) hx hb dX6_setRule_44 (by decide) (fun c12 => ?_) (fun c12 => ?_)
      · have hw := hw.1 c12
        exact j_61 (s0) _ _ _ _ hw hP hS (lv_sub hl [1, 2, 3, 4, 5, 6, 0] rfl)
      · have hw := hw.2 c12
        refine lv_iload hx hb dX6_setRule_47 (lv_at hl 6 rfl) ?_
        refine lv_iconst (v := 0) hx hb dX6_setRule_49 (by decide) ?_
        refine lv_iconst (v := 4) hx hb dX6_setRule_50 (by decide) ?_
        refine xg_calli (va_runS (As := [.int (p4), .int (0), .int (4)]) (rest := []) ⟨hx, hb, hml, hown, hts⟩ (c_X6_isIn l hl9 hA p4 (0 : Int32) (4 : Int32) hw) (va_cwS 3 hts gX6_setRule_X6_isIn rfl rfl rfl (by decide +kernel) ⟨Nat.le_of_ble_eq_true rfl, Nat.le_of_ble_eq_true rfl⟩) (xg_preS hB0 hP hK hN hS) rfl rfl hl.1 rfl (lv_room (Nat.le_of_ble_eq_true rfl)) dX6_setRule_51 ⟨Nat.le_of_ble_eq_true rfl, Nat.le_of_ble_eq_true rfl⟩) hS (fun r13 h14 H locs hw hP hS => ?_)
        refine lv_if_eq (tgt := 61) hx hb dX6_setRule_54 (by decide) (fun c15 => ?_) (fun c15 => ?_)
        · have hw := hw.1 c15
          exact j_61 (s0) _ _ _ _ hw hP hS (lv_sub hl [1, 2, 3, 4, 5, 6, 0] rfl)
        · have hw := hw.2 c15
          refine lv_iconst (v := 1) hx hb dX6_setRule_57 (by decide) ?_
          refine lv_goto (tgt := 62) hx hb dX6_setRule_58 (by decide) ?_
          exact j_62 (s0) (1) _ _ _ _ hw hP hS (lv_sub hl [1, 2, 3, 4, 5, 6, 0] rfl)
  have j_23 : ∀ (h : xH) (H : Heap) (locs : List Loc) (ls : Array Slot), w_X6_setRule_23 p0 p1 p2 p3 p4 K h → XP ad D T h H → va_S (fun q => B0 ≤ q) s.heap H locs → lv_has ls 10 [(0, .ref (ad (60))), (1, .int (p0)), (2, .int (p1)), (3, .int (p2)), (4, .int (p3)), (5, .int (p4))] → W p l e (headSpec wsX6_setRule ({ frames := 1, cells := 0, slots := 0, locals := 22 } : Room)).room s m ([.ref (ad (60)), .int (p0), .int (p1), .int (p2), .int (p3), .int (p4)] : List Value).toArray below meth c H locs 0 0 (MQ below (XQ B0 ad D T xei K) ([.ref (ad (60)), .int (p0), .int (p1), .int (p2), .int (p3), .int (p4)] : List Value).toArray s 0 0 (fun q => B0 ≤ q)) (F0 m 23 ls []) := by
    intro h H locs ls hw hP hS hl 
    unfold w_X6_setRule_23 at hw
    refine lv_iconst (v := 0) hx hb dX6_setRule_23 (by decide) ?_
    exact j_24 (0) _ _ _ _ hw hP hS (lv_sub hl [0, 1, 2, 3, 4, 5] rfl)
  unfold w_X6_setRule at hw
  refine lv_iload_n hx hb dX6_setRule_0 rfl (lv_at hl 1 rfl) ?_
  refine lv_iconst (v := 0) hx hb dX6_setRule_1 (by decide) ?_
  refine lv_iconst (v := 5) hx hb dX6_setRule_2 (by decide) ?_
  refine xg_calli (va_runS (As := [.int (p0), .int (0), .int (5)]) (rest := []) ⟨hx, hb, hml, hown, hts⟩ (c_X6_isIn l hl9 hA p0 (0 : Int32) (5 : Int32) hw) (va_cwS 3 hts gX6_setRule_X6_isIn rfl rfl rfl (by decide +kernel) ⟨Nat.le_of_ble_eq_true rfl, Nat.le_of_ble_eq_true rfl⟩) (xg_preS hB0 hP hK hN hS) rfl rfl hl.1 rfl (lv_room (Nat.le_of_ble_eq_true rfl)) dX6_setRule_3 ⟨Nat.le_of_ble_eq_true rfl, Nat.le_of_ble_eq_true rfl⟩) hS (fun r1 h2 H locs hw hP hS => ?_)
  refine lv_if_eq (tgt := 23) hx hb dX6_setRule_6 (by decide) (fun c3 => ?_) (fun c3 => ?_)
  · have hw := hw.1 c3
    exact j_23  _ _ _ _ hw hP hS (lv_sub hl [0, 1, 2, 3, 4, 5] rfl)
  · have hw := hw.2 c3
    refine lv_iload hx hb dX6_setRule_9 (lv_at hl 4 rfl) ?_
    refine lv_iconst (v := (-1)) hx hb dX6_setRule_11 (by decide) ?_
    refine lv_iconst (v := 5) hx hb dX6_setRule_12 (by decide) ?_
    refine xg_calli (va_runS (As := [.int (p3), .int ((-1)), .int (5)]) (rest := []) ⟨hx, hb, hml, hown, hts⟩ (c_X6_isIn l hl9 hA p3 ((-1) : Int32) (5 : Int32) hw) (va_cwS 3 hts gX6_setRule_X6_isIn rfl rfl rfl (by decide +kernel) ⟨Nat.le_of_ble_eq_true rfl, Nat.le_of_ble_eq_true rfl⟩) (xg_preS hB0 hP hK hN hS) rfl rfl hl.1 rfl (lv_room (Nat.le_of_ble_eq_true rfl)) dX6_setRule_13 ⟨Nat.le_of_ble_eq_true rfl, Nat.le_of_ble_eq_true rfl⟩) hS (fun r4 h5 H locs hw hP hS => ?_)
    refine lv_if_eq (tgt := 23) hx hb dX6_setRule_16 (by decide) (fun c6 => ?_) (fun c6 => ?_)
    · have hw := hw.1 c6
      exact j_23  _ _ _ _ hw hP hS (lv_sub hl [0, 1, 2, 3, 4, 5] rfl)
    · have hw := hw.2 c6
      refine lv_iconst (v := 1) hx hb dX6_setRule_19 (by decide) ?_
      refine lv_goto (tgt := 24) hx hb dX6_setRule_20 (by decide) ?_
      exact j_24 (1) _ _ _ _ hw hP hS (lv_sub hl [0, 1, 2, 3, 4, 5] rfl)
set_option maxHeartbeats 4000000 in
set_option maxRecDepth 100000 in
theorem c_X6_removeRule (l : Launch) (hl9 : l.stackTraces = false) {B0 : Nat} {ad : Nat → Nat} {D : va_G} {T : Nat → ClassId} (hA : XA B0 ad) (p0 : Int32) {h : xH} {K : Int32 → xH → Prop} (hw : w_X6_removeRule p0 h K) : XM l yX6_removeRule wsX6_removeRule ({ frames := 1, cells := 0, slots := 0, locals := 22 } : Room) B0 ad D T h [.ref (ad (60)), .int (p0)] xei K 0 0 := by
  unfold XM
  refine Met.ofW (cc := cX6_removeRule) (maxL := 3) (ret := (some .boolean)) (by decide) rfl ?_
  intro p e s m args below meth c s₁ B hml hv
  obtain ⟨rfl, hB0, hP, hK, hN⟩ := hv
  have hx := B.exec
  have hb := B.bytes
  have hr := B.returns
  have hts := atoms_spec (ws := wsX6_removeRule) B.pre
  have hown : s.vm.findClass RX6 = some m.cls := findClass_of_methodNamed B.named
  have hlocks := B.notSynchronized
  have iX6 : ∀ w ∈ u_ws RX6 TX6 34, w ∈ wsX6_removeRule := by decide +kernel
  have f_35 := hts (.fieldLink RX6 35 "LogSpoolerModel" "isSet" "[Z") (by decide +kernel)
  have hS : va_S (fun q => B0 ≤ q) s.heap s.heap [] := va_S.rf
  have hl := lv_entry ([.ref (ad (60)), .int (p0)]) (n := 3) (Nat.le_of_ble_eq_true rfl)
  rw [lg_entry_eq]
  generalize (lg_sl ([.ref (ad (60)), .int (p0)]) ++ List.replicate (3 - (lg_sl ([.ref (ad (60)), .int (p0)])).length) Slot.unset).toArray = ls at hl ⊢
  have hl : lv_has ls 3 [(0, .ref (ad (60))), (1, .int (p0))] := hl
  have j_15 : ∀ (s0 : Nat) (s1 : Int32) (h : xH) (H : Heap) (locs : List Loc) (ls : Array Slot), w_X6_removeRule_15 p0 K s0 s1 h → XP ad D T h H → va_S (fun q => B0 ≤ q) s.heap H locs → lv_has ls 3 [(0, .ref (ad (60))), (1, .int (p0))] → W p l e (headSpec wsX6_removeRule ({ frames := 1, cells := 0, slots := 0, locals := 22 } : Room)).room s m ([.ref (ad (60)), .int (p0)] : List Value).toArray below meth c H locs 0 0 (MQ below (XQ B0 ad D T xei K) ([.ref (ad (60)), .int (p0)] : List Value).toArray s 0 0 (fun q => B0 ≤ q)) (F0 m 15 ls [.int (s1), .ref (ad (60))]) := by
    intro s0 s1 h H locs ls hw hP hS hl 
    unfold w_X6_removeRule_15 at hw
    refine xg_calli (va_runV (As := [.int (s1)]) (rest := []) ⟨hx, hb, hml, hown, hts⟩ (c_X6_holds l hl9 hA s1 hw) (cwV 1 hts gX6_removeRule_X6_holds rfl rfl rfl (by decide +kernel) ⟨Nat.le_of_ble_eq_true rfl, Nat.le_of_ble_eq_true rfl⟩) (xg_preV hB0 hP hK hN hS xs60 rfl) rfl rfl hl.1 rfl (lv_room (Nat.le_of_ble_eq_true rfl)) dX6_removeRule_15 ⟨Nat.le_of_ble_eq_true rfl, Nat.le_of_ble_eq_true rfl⟩) hS (fun r4 h5 H locs hw hP hS => ?_)
    refine lv_if_ne (tgt := 23) hx hb dX6_removeRule_18 (by decide) (fun c6 => ?_) (fun c6 => ?_)
    · have hw := hw.2 c6
      refine lv_aload_n hx hb dX6_removeRule_23 rfl (lv_at hl 0 rfl) ?_
      refine xg_getr (C := RX6) (TC := TX6) (N := 34) hx hb hts iX6 hown hK hP xs60 rfl 10 (by decide) f_35 (fun _ h9 => h9) rfl dX6_removeRule_24 ?_
      refine lv_iload_n hx hb dX6_removeRule_27 rfl (lv_at hl 1 rfl) ?_
      obtain ⟨hi7, hw⟩ := hw
      refine xg_zald hx hb hK hP xs70 hi7 dX6_removeRule_28 ?_
      refine lv_topi (fun x8 ex8 => ?_)
      have hw := hw x8 ex8
      refine lv_istore_n (lv' := [(2, .int (x8)), (0, .ref (ad (60))), (1, .int (p0))]) hx hb dX6_removeRule_29 rfl hl (by decide) rfl (fun ls hl => ?_)
      refine lv_aload_n hx hb dX6_removeRule_30 rfl (lv_at hl 1 rfl) ?_
      refine xg_getr (C := RX6) (TC := TX6) (N := 34) hx hb hts iX6 hown hK hP xs60 rfl 10 (by decide) f_35 (fun _ h9 => h9) rfl dX6_removeRule_31 ?_
      refine lv_iload_n hx hb dX6_removeRule_34 rfl (lv_at hl 2 rfl) ?_
      refine lv_iconst (v := 0) hx hb dX6_removeRule_35 (by decide) ?_
      obtain ⟨hi9, hw⟩ := hw
      refine xg_zast hx hb hK hP hA hS xs70 (by decide) hi9 dX6_removeRule_36 (fun H locs h10 eh10 hP hS => ?_)
      have hw := hw h10 eh10
      refine lv_iload_n hx hb dX6_removeRule_37 rfl (lv_at hl 0 rfl) ?_
      obtain ⟨hz11, hw⟩ := hw
      exact xg_irets hx hb hr hz11 hlocks hB0 hP hK hN hS dX6_removeRule_38 (by decide) (by decide) hw
    · have hw := hw.1 c6
      refine lv_iconst (v := 0) hx hb dX6_removeRule_21 (by decide) ?_
      exact xg_irets hx hb hr rfl hlocks hB0 hP hK hN hS dX6_removeRule_22 (by decide) (by decide) hw
  unfold w_X6_removeRule at hw
  refine lv_aload_n hx hb dX6_removeRule_0 rfl (lv_at hl 0 rfl) ?_
  refine lv_iload_n hx hb dX6_removeRule_1 rfl (lv_at hl 1 rfl) ?_
  refine lv_iconst (v := 0) hx hb dX6_removeRule_2 (by decide) ?_
  refine lv_iconst (v := 5) hx hb dX6_removeRule_3 (by decide) ?_
  refine xg_calli (va_runS (As := [.int (p0), .int (0), .int (5)]) (rest := [.ref (ad (60))]) ⟨hx, hb, hml, hown, hts⟩ (c_X6_isIn l hl9 hA p0 (0 : Int32) (5 : Int32) hw) (va_cwS 3 hts gX6_removeRule_X6_isIn rfl rfl rfl (by decide +kernel) ⟨Nat.le_of_ble_eq_true rfl, Nat.le_of_ble_eq_true rfl⟩) (xg_preS hB0 hP hK hN hS) rfl rfl hl.1 rfl (lv_room (Nat.le_of_ble_eq_true rfl)) dX6_removeRule_4 ⟨Nat.le_of_ble_eq_true rfl, Nat.le_of_ble_eq_true rfl⟩) hS (fun r1 h2 H locs hw hP hS => ?_)
  refine lv_if_eq (tgt := 14) hx hb dX6_removeRule_7 (by decide) (fun c3 => ?_) (fun c3 => ?_)
  · have hw := hw.1 c3
    refine lv_iconst (v := 1) hx hb dX6_removeRule_14 (by decide) ?_
    exact j_15 (60) (1) _ _ _ _ hw hP hS (lv_sub hl [0, 1] rfl)
  · have hw := hw.2 c3
    refine lv_iconst (v := 0) hx hb dX6_removeRule_10 (by decide) ?_
    refine lv_goto (tgt := 15) hx hb dX6_removeRule_11 (by decide) ?_
    exact j_15 (60) (0) _ _ _ _ hw hP hS (lv_sub hl [0, 1] rfl)
set_option maxHeartbeats 4000000 in
set_option maxRecDepth 100000 in
theorem c_X6_isFile (l : Launch) (hl9 : l.stackTraces = false) {B0 : Nat} {ad : Nat → Nat} {D : va_G} {T : Nat → ClassId} (hA : XA B0 ad) (p0 : Int32) {h : xH} {K : Int32 → xH → Prop} (hw : w_X6_isFile p0 h K) : XM l yX6_isFile wsX6_isFile ({ frames := 1, cells := 0, slots := 0, locals := 22 } : Room) B0 ad D T h [.int (p0)] xei K 0 0 := by
  unfold XM
  refine Met.ofW (cc := cX6_isFile) (maxL := 1) (ret := (some .boolean)) (by decide) rfl ?_
  intro p e s m args below meth c s₁ B hml hv
  obtain ⟨rfl, hB0, hP, hK, hN⟩ := hv
  have hx := B.exec
  have hb := B.bytes
  have hr := B.returns
  have hts := atoms_spec (ws := wsX6_isFile) B.pre
  have hown : s.vm.findClass RX6 = some m.cls := findClass_of_methodNamed B.named
  have hlocks := B.notSynchronized
  have hS : va_S (fun q => B0 ≤ q) s.heap s.heap [] := va_S.rf
  have hl := lv_entry ([.int (p0)]) (n := 1) (Nat.le_of_ble_eq_true rfl)
  rw [lg_entry_eq]
  generalize (lg_sl ([.int (p0)]) ++ List.replicate (1 - (lg_sl ([.int (p0)])).length) Slot.unset).toArray = ls at hl ⊢
  have hl : lv_has ls 1 [(0, .int (p0))] := hl
  unfold w_X6_isFile at hw
  refine lv_iload_n hx hb dX6_isFile_0 rfl (lv_at hl 0 rfl) ?_
  refine lv_iconst (v := 0) hx hb dX6_isFile_1 (by decide) ?_
  refine lv_iconst (v := 3) hx hb dX6_isFile_2 (by decide) ?_
  refine xg_calli (va_runS (As := [.int (p0), .int (0), .int (3)]) (rest := []) ⟨hx, hb, hml, hown, hts⟩ (c_X6_isIn l hl9 hA p0 (0 : Int32) (3 : Int32) hw) (va_cwS 3 hts gX6_isFile_X6_isIn rfl rfl rfl (by decide +kernel) ⟨Nat.le_of_ble_eq_true rfl, Nat.le_of_ble_eq_true rfl⟩) (xg_preS hB0 hP hK hN hS) rfl rfl hl.1 rfl (lv_room (Nat.le_of_ble_eq_true rfl)) dX6_isFile_3 ⟨Nat.le_of_ble_eq_true rfl, Nat.le_of_ble_eq_true rfl⟩) hS (fun r1 h2 H locs hw hP hS => ?_)
  obtain ⟨hz3, hw⟩ := hw
  exact xg_irets hx hb hr hz3 hlocks hB0 hP hK hN hS dX6_isFile_6 (by decide) (by decide) hw
set_option maxHeartbeats 4000000 in
set_option maxRecDepth 100000 in
theorem c_X6_setFile (l : Launch) (hl9 : l.stackTraces = false) {B0 : Nat} {ad : Nat → Nat} {D : va_G} {T : Nat → ClassId} (hA : XA B0 ad) (p0 : Int32) (p1 : Int32) (p2 : Int32) (p3 : Int32) {h : xH} {K : Int32 → xH → Prop} (hw : w_X6_setFile p0 p1 p2 p3 h K) : XM l yX6_setFile wsX6_setFile ({ frames := 2, cells := 0, slots := 0, locals := 42 } : Room) B0 ad D T h [.ref (ad (60)), .int (p0), .int (p1), .int (p2), .int (p3)] xei K 0 0 := by
  unfold XM
  refine Met.ofW (cc := cX6_setFile) (maxL := 6) (ret := (some .int)) (by decide) rfl ?_
  intro p e s m args below meth c s₁ B hml hv
  obtain ⟨rfl, hB0, hP, hK, hN⟩ := hv
  have hx := B.exec
  have hb := B.bytes
  have hr := B.returns
  have hts := atoms_spec (ws := wsX6_setFile) B.pre
  have hown : s.vm.findClass RX6 = some m.cls := findClass_of_methodNamed B.named
  have hlocks := B.notSynchronized
  have iX6 : ∀ w ∈ u_ws RX6 TX6 34, w ∈ wsX6_setFile := by decide +kernel
  have f_51 := hts (.fieldLink RX6 51 "LogSpoolerModel" "most" "[I") (by decide +kernel)
  have f_54 := hts (.fieldLink RX6 54 "LogSpoolerModel" "ages" "[I") (by decide +kernel)
  have f_57 := hts (.fieldLink RX6 57 "LogSpoolerModel" "kept" "[I") (by decide +kernel)
  have f_60 := hts (.fieldLink RX6 60 "LogSpoolerModel" "sizes" "[I") (by decide +kernel)
  have f_66 := hts (.fieldLink RX6 66 "LogSpoolerModel" "generations" "[I") (by decide +kernel)
  have hS : va_S (fun q => B0 ≤ q) s.heap s.heap [] := va_S.rf
  have hl := lv_entry ([.ref (ad (60)), .int (p0), .int (p1), .int (p2), .int (p3)]) (n := 6) (Nat.le_of_ble_eq_true rfl)
  rw [lg_entry_eq]
  generalize (lg_sl ([.ref (ad (60)), .int (p0), .int (p1), .int (p2), .int (p3)]) ++ List.replicate (6 - (lg_sl ([.ref (ad (60)), .int (p0), .int (p1), .int (p2), .int (p3)])).length) Slot.unset).toArray = ls at hl ⊢
  have hl : lv_has ls 6 [(0, .ref (ad (60))), (1, .int (p0)), (2, .int (p1)), (3, .int (p2)), (4, .int (p3))] := hl
  have j_120 : ∀ (s1 : Int32) (s2 : Int32) (h : xH) (H : Heap) (locs : List Loc) (ls : Array Slot), w_X6_setFile_120 p0 p1 p2 p3 K s1 s2 h → XP ad D T h H → va_S (fun q => B0 ≤ q) s.heap H locs → lv_has ls 6 [(0, .ref (ad (60))), (1, .int (p0))] → W p l e (headSpec wsX6_setFile ({ frames := 2, cells := 0, slots := 0, locals := 42 } : Room)).room s m ([.ref (ad (60)), .int (p0), .int (p1), .int (p2), .int (p3)] : List Value).toArray below meth c H locs 0 0 (MQ below (XQ B0 ad D T xei K) ([.ref (ad (60)), .int (p0), .int (p1), .int (p2), .int (p3)] : List Value).toArray s 0 0 (fun q => B0 ≤ q)) (F0 m 120 ls [.int (s2), .int (s1), .ref (ad (80))]) := by
    intro s1 s2 h H locs ls hw hP hS hl 
    unfold w_X6_setFile_120 at hw
    obtain ⟨hi26, hw⟩ := hw
    refine xg_iast hx hb hK hP hA hS xs80 hi26 dX6_setFile_120 (fun H locs h27 eh27 hP hS => ?_)
    have hw := hw h27 eh27
    refine lv_aload_n hx hb dX6_setFile_121 rfl (lv_at hl 0 rfl) ?_
    refine xg_getr (C := RX6) (TC := TX6) (N := 34) hx hb hts iX6 hown hK hP xs60 rfl 18 (by decide) f_60 (fun _ h9 => h9) rfl dX6_setFile_122 ?_
    refine lv_iload_n hx hb dX6_setFile_125 rfl (lv_at hl 1 rfl) ?_
    obtain ⟨hi28, hw⟩ := hw
    refine xg_iald hx hb hK hP xs78 hi28 dX6_setFile_126 ?_
    exact xg_irets hx hb hr rfl hlocks hB0 hP hK hN hS dX6_setFile_127 (by decide) (by decide) hw
  have j_63 : ∀ (s0 : Nat) (s1 : Int32) (h : xH) (H : Heap) (locs : List Loc) (ls : Array Slot), w_X6_setFile_63 p0 p1 p2 p3 K s0 s1 h → XP ad D T h H → va_S (fun q => B0 ≤ q) s.heap H locs → lv_has ls 6 [(0, .ref (ad (60))), (1, .int (p0)), (2, .int (p1)), (3, .int (p2)), (4, .int (p3))] → W p l e (headSpec wsX6_setFile ({ frames := 2, cells := 0, slots := 0, locals := 42 } : Room)).room s m ([.ref (ad (60)), .int (p0), .int (p1), .int (p2), .int (p3)] : List Value).toArray below meth c H locs 0 0 (MQ below (XQ B0 ad D T xei K) ([.ref (ad (60)), .int (p0), .int (p1), .int (p2), .int (p3)] : List Value).toArray s 0 0 (fun q => B0 ≤ q)) (F0 m 63 ls [.int (s1), .ref (ad (60))]) := by
    intro s0 s1 h H locs ls hw hP hS hl 
    unfold w_X6_setFile_63 at hw
    refine xg_calli (va_runV (As := [.int (s1)]) (rest := []) ⟨hx, hb, hml, hown, hts⟩ (c_X6_holds l hl9 hA s1 hw) (cwV 1 hts gX6_setFile_X6_holds rfl rfl rfl (by decide +kernel) ⟨Nat.le_of_ble_eq_true rfl, Nat.le_of_ble_eq_true rfl⟩) (xg_preV hB0 hP hK hN hS xs60 rfl) rfl rfl hl.1 rfl (lv_room (Nat.le_of_ble_eq_true rfl)) dX6_setFile_63 ⟨Nat.le_of_ble_eq_true rfl, Nat.le_of_ble_eq_true rfl⟩) hS (fun r14 h15 H locs hw hP hS => ?_)
    refine lv_if_ne (tgt := 71) hx hb dX6_setFile_66 (by decide) (fun c16 => ?_) (fun c16 => ?_)
    · have hw := hw.2 c16
      refine lv_aload_n hx hb dX6_setFile_71 rfl (lv_at hl 0 rfl) ?_
      refine xg_getr (C := RX6) (TC := TX6) (N := 34) hx hb hts iX6 hown hK hP xs60 rfl 15 (by decide) f_51 (fun _ h9 => h9) rfl dX6_setFile_72 ?_
      refine lv_iload_n hx hb dX6_setFile_75 rfl (lv_at hl 1 rfl) ?_
      refine lv_iload_n hx hb dX6_setFile_76 rfl (lv_at hl 2 rfl) ?_
      obtain ⟨hi17, hw⟩ := hw
      refine xg_iast hx hb hK hP hA hS xs75 hi17 dX6_setFile_77 (fun H locs h18 eh18 hP hS => ?_)
      have hw := hw h18 eh18
      refine lv_aload_n hx hb dX6_setFile_78 rfl (lv_at hl 0 rfl) ?_
      refine xg_getr (C := RX6) (TC := TX6) (N := 34) hx hb hts iX6 hown hK hP xs60 rfl 16 (by decide) f_54 (fun _ h9 => h9) rfl dX6_setFile_79 ?_
      refine lv_iload_n hx hb dX6_setFile_82 rfl (lv_at hl 1 rfl) ?_
      refine lv_iload_n hx hb dX6_setFile_83 rfl (lv_at hl 3 rfl) ?_
      obtain ⟨hi19, hw⟩ := hw
      refine xg_iast hx hb hK hP hA hS xs76 hi19 dX6_setFile_84 (fun H locs h20 eh20 hP hS => ?_)
      have hw := hw h20 eh20
      refine lv_aload_n hx hb dX6_setFile_85 rfl (lv_at hl 0 rfl) ?_
      refine xg_getr (C := RX6) (TC := TX6) (N := 34) hx hb hts iX6 hown hK hP xs60 rfl 17 (by decide) f_57 (fun _ h9 => h9) rfl dX6_setFile_86 ?_
      refine lv_iload_n hx hb dX6_setFile_89 rfl (lv_at hl 1 rfl) ?_
      refine lv_iload hx hb dX6_setFile_90 (lv_at hl 4 rfl) ?_
      obtain ⟨hi21, hw⟩ := hw
      refine xg_iast hx hb hK hP hA hS xs77 hi21 dX6_setFile_92 (fun H locs h22 eh22 hP hS => ?_)
      have hw := hw h22 eh22
      refine lv_aload_n hx hb dX6_setFile_93 rfl (lv_at hl 0 rfl) ?_
      refine xg_getr (C := RX6) (TC := TX6) (N := 34) hx hb hts iX6 hown hK hP xs60 rfl 20 (by decide) f_66 (fun _ h9 => h9) rfl dX6_setFile_94 ?_
      refine lv_iload_n hx hb dX6_setFile_97 rfl (lv_at hl 1 rfl) ?_
      refine lv_aload_n hx hb dX6_setFile_98 rfl (lv_at hl 0 rfl) ?_
      refine xg_getr (C := RX6) (TC := TX6) (N := 34) hx hb hts iX6 hown hK hP xs60 rfl 20 (by decide) f_66 (fun _ h9 => h9) rfl dX6_setFile_99 ?_
      refine lv_iload_n hx hb dX6_setFile_102 rfl (lv_at hl 1 rfl) ?_
      obtain ⟨hi23, hw⟩ := hw
      refine xg_iald hx hb hK hP xs80 hi23 dX6_setFile_103 ?_
      refine lv_iload hx hb dX6_setFile_104 (lv_at hl 4 rfl) ?_
      refine lv_icmp_le (tgt := 114) hx hb dX6_setFile_106 (by decide) (fun c24 => ?_) (fun c24 => ?_)
      · have hw := hw.1 c24
        refine lv_aload_n hx hb dX6_setFile_114 rfl (lv_at hl 0 rfl) ?_
        refine xg_getr (C := RX6) (TC := TX6) (N := 34) hx hb hts iX6 hown hK hP xs60 rfl 20 (by decide) f_66 (fun _ h9 => h9) rfl dX6_setFile_115 ?_
        refine lv_iload_n hx hb dX6_setFile_118 rfl (lv_at hl 1 rfl) ?_
        obtain ⟨hi25, hw⟩ := hw
        refine xg_iald hx hb hK hP xs80 hi25 dX6_setFile_119 ?_
        exact j_120 (p0) ((h22 80 p0.toNatClampNeg)) _ _ _ _ hw hP hS (lv_sub hl [0, 1] rfl)
      · have hw := hw.2 c24
        refine lv_iload hx hb dX6_setFile_109 (lv_at hl 4 rfl) ?_
        refine lv_goto (tgt := 120) hx hb dX6_setFile_111 (by decide) ?_
        exact j_120 (p0) (p3) _ _ _ _ hw hP hS (lv_sub hl [0, 1] rfl)
    · have hw := hw.1 c16
      refine lv_iconst (v := 0) hx hb dX6_setFile_69 (by decide) ?_
      exact xg_irets hx hb hr rfl hlocks hB0 hP hK hN hS dX6_setFile_70 (by decide) (by decide) hw
  have j_39 : ∀ (s0 : Int32) (h : xH) (H : Heap) (locs : List Loc) (ls : Array Slot), w_X6_setFile_39 p0 p1 p2 p3 K s0 h → XP ad D T h H → va_S (fun q => B0 ≤ q) s.heap H locs → lv_has ls 6 [(0, .ref (ad (60))), (1, .int (p0)), (2, .int (p1)), (3, .int (p2)), (4, .int (p3))] → W p l e (headSpec wsX6_setFile ({ frames := 2, cells := 0, slots := 0, locals := 42 } : Room)).room s m ([.ref (ad (60)), .int (p0), .int (p1), .int (p2), .int (p3)] : List Value).toArray below meth c H locs 0 0 (MQ below (XQ B0 ad D T xei K) ([.ref (ad (60)), .int (p0), .int (p1), .int (p2), .int (p3)] : List Value).toArray s 0 0 (fun q => B0 ≤ q)) (F0 m 39 ls [.int (s0)]) := by
    intro s0 h H locs ls hw hP hS hl 
    unfold w_X6_setFile_39 at hw
    refine lv_istore (lv' := [(5, .int (s0)), (0, .ref (ad (60))), (1, .int (p0)), (2, .int (p1)), (3, .int (p2)), (4, .int (p3))]) hx hb dX6_setFile_39 hl (by decide) rfl (fun ls hl => ?_)
    refine lv_aload_n hx hb dX6_setFile_41 rfl (lv_at hl 1 rfl) ?_
    refine lv_iload_n hx hb dX6_setFile_42 rfl (lv_at hl 2 rfl) ?_
    refine xg_calli (va_runS (As := [.int (p0)]) (rest := [.ref (ad (60))]) ⟨hx, hb, hml, hown, hts⟩ (c_X6_isFile l hl9 hA p0 hw) (va_cwS 1 hts gX6_setFile_X6_isFile rfl rfl rfl (by decide +kernel) ⟨Nat.le_of_ble_eq_true rfl, Nat.le_of_ble_eq_true rfl⟩) (xg_preS hB0 hP hK hN hS) rfl rfl hl.1 rfl (lv_room (Nat.le_of_ble_eq_true rfl)) dX6_setFile_43 ⟨Nat.le_of_ble_eq_true rfl, Nat.le_of_ble_eq_true rfl⟩) hS (fun r10 h11 H locs hw hP hS => ?_)
    refine lv_if_ne (tgt := 53) hx hb dX6_setFile_46 (by decide) (fun c12 => ?_) (fun c12 => ?_)
    · have hw := hw.2 c12
      refine lv_iload hx hb dX6_setFile_53 (lv_at hl 0 rfl) ?_
      refine lv_if_eq (tgt := 62) hx hb dX6_setFile_55 (by decide) (fun c13 => ?_) (fun c13 => ?_)
      · have hw := hw.1 c13
        refine lv_iconst (v := 2) hx hb dX6_setFile_62 (by decide) ?_
        exact j_63 (60) (2) _ _ _ _ hw hP hS (lv_sub hl [1, 2, 3, 4, 5] rfl)
      · have hw := hw.2 c13
        refine lv_iconst (v := 0) hx hb dX6_setFile_58 (by decide) ?_
        refine lv_goto (tgt := 63) hx hb dX6_setFile_59 (by decide) ?_
        exact j_63 (60) (0) _ _ _ _ hw hP hS (lv_sub hl [1, 2, 3, 4, 5] rfl)
    · have hw := hw.1 c12
      refine lv_iconst (v := 1) hx hb dX6_setFile_49 (by decide) ?_
      refine lv_goto (tgt := 63) hx hb dX6_setFile_50 (by decide) ?_
      exact j_63 (60) (1) _ _ _ _ hw hP hS (lv_sub hl [1, 2, 3, 4, 5] rfl)
  have j_38 : ∀ (h : xH) (H : Heap) (locs : List Loc) (ls : Array Slot), w_X6_setFile_38 p0 p1 p2 p3 K h → XP ad D T h H → va_S (fun q => B0 ≤ q) s.heap H locs → lv_has ls 6 [(0, .ref (ad (60))), (1, .int (p0)), (2, .int (p1)), (3, .int (p2)), (4, .int (p3))] → W p l e (headSpec wsX6_setFile ({ frames := 2, cells := 0, slots := 0, locals := 42 } : Room)).room s m ([.ref (ad (60)), .int (p0), .int (p1), .int (p2), .int (p3)] : List Value).toArray below meth c H locs 0 0 (MQ below (XQ B0 ad D T xei K) ([.ref (ad (60)), .int (p0), .int (p1), .int (p2), .int (p3)] : List Value).toArray s 0 0 (fun q => B0 ≤ q)) (F0 m 38 ls []) := by
    intro h H locs ls hw hP hS hl 
    unfold w_X6_setFile_38 at hw
    refine lv_iconst (v := 0) hx hb dX6_setFile_38 (by decide) ?_
    exact j_39 (0) _ _ _ _ hw hP hS (lv_sub hl [0, 1, 2, 3, 4] rfl)
  unfold w_X6_setFile at hw
  refine lv_iload_n hx hb dX6_setFile_0 rfl (lv_at hl 2 rfl) ?_
  refine lv_sipush (v := 200) hx hb dX6_setFile_1 (by decide) ?_
  refine lv_sipush (v := 5000) hx hb dX6_setFile_4 (by decide) ?_
  refine xg_calli (va_runS (As := [.int (p1), .int (200), .int (5000)]) (rest := []) ⟨hx, hb, hml, hown, hts⟩ (c_X6_isIn l hl9 hA p1 (200 : Int32) (5000 : Int32) hw) (va_cwS 3 hts gX6_setFile_X6_isIn rfl rfl rfl (by decide +kernel) ⟨Nat.le_of_ble_eq_true rfl, Nat.le_of_ble_eq_true rfl⟩) (xg_preS hB0 hP hK hN hS) rfl rfl hl.1 rfl (lv_room (Nat.le_of_ble_eq_true rfl)) dX6_setFile_7 ⟨Nat.le_of_ble_eq_true rfl, Nat.le_of_ble_eq_true rfl⟩) hS (fun r1 h2 H locs hw hP hS => ?_)
  refine lv_if_eq (tgt := 38) hx hb dX6_setFile_10 (by decide) (fun c3 => ?_) (fun c3 => ?_)
  · have hw := hw.1 c3
    exact j_38  _ _ _ _ hw hP hS (lv_sub hl [0, 1, 2, 3, 4] rfl)
  · have hw := hw.2 c3
    refine lv_iload_n hx hb dX6_setFile_13 rfl (lv_at hl 3 rfl) ?_
    refine lv_iconst (v := 0) hx hb dX6_setFile_14 (by decide) ?_
    refine lv_sipush (v := 1000) hx hb dX6_setFile_15 (by decide) ?_
    refine xg_calli (va_runS (As := [.int (p2), .int (0), .int (1000)]) (rest := []) ⟨hx, hb, hml, hown, hts⟩ (c_X6_isIn l hl9 hA p2 (0 : Int32) (1000 : Int32) hw) (va_cwS 3 hts gX6_setFile_X6_isIn rfl rfl rfl (by decide +kernel) ⟨Nat.le_of_ble_eq_true rfl, Nat.le_of_ble_eq_true rfl⟩) (xg_preS hB0 hP hK hN hS) rfl rfl hl.1 rfl (lv_room (Nat.le_of_ble_eq_true rfl)) dX6_setFile_18 ⟨Nat.le_of_ble_eq_true rfl, Nat.le_of_ble_eq_true rfl⟩) hS (fun r4 h5 H locs hw hP hS => ?_)
    refine lv_if_eq (tgt := 38) hx hb dX6_setFile_21 (by decide) (fun c6 => ?_) (fun c6 => ?_)
    · have hw := hw.1 c6
      exact j_38  _ _ _ _ hw hP hS (lv_sub hl [0, 1, 2, 3, 4] rfl)
    · have hw := hw.2 c6
      refine lv_iload hx hb dX6_setFile_24 (lv_at hl 4 rfl) ?_
      refine lv_iconst (v := 0) hx hb dX6_setFile_26 (by decide) ?_
      refine lv_iconst (v := 5) hx hb dX6_setFile_27 (by decide) ?_
      refine xg_calli (va_runS (As := [.int (p3), .int (0), .int (5)]) (rest := []) ⟨hx, hb, hml, hown, hts⟩ (c_X6_isIn l hl9 hA p3 (0 : Int32) (5 : Int32) hw) (va_cwS 3 hts gX6_setFile_X6_isIn rfl rfl rfl (by decide +kernel) ⟨Nat.le_of_ble_eq_true rfl, Nat.le_of_ble_eq_true rfl⟩) (xg_preS hB0 hP hK hN hS) rfl rfl hl.1 rfl (lv_room (Nat.le_of_ble_eq_true rfl)) dX6_setFile_28 ⟨Nat.le_of_ble_eq_true rfl, Nat.le_of_ble_eq_true rfl⟩) hS (fun r7 h8 H locs hw hP hS => ?_)
      refine lv_if_eq (tgt := 38) hx hb dX6_setFile_31 (by decide) (fun c9 => ?_) (fun c9 => ?_)
      · have hw := hw.1 c9
        exact j_38  _ _ _ _ hw hP hS (lv_sub hl [0, 1, 2, 3, 4] rfl)
      · have hw := hw.2 c9
        refine lv_iconst (v := 1) hx hb dX6_setFile_34 (by decide) ?_
        refine lv_goto (tgt := 39) hx hb dX6_setFile_35 (by decide) ?_
        exact j_39 (1) _ _ _ _ hw hP hS (lv_sub hl [0, 1, 2, 3, 4] rfl)
set_option maxHeartbeats 4000000 in
set_option maxRecDepth 100000 in
theorem c_X6_linesOf (l : Launch) (hl9 : l.stackTraces = false) {B0 : Nat} {ad : Nat → Nat} {D : va_G} {T : Nat → ClassId} (hA : XA B0 ad) (p0 : Int32) {h : xH} {K : Int32 → xH → Prop} (hw : w_X6_linesOf p0 h K) : XM l yX6_linesOf wsX6_linesOf ({ frames := 0, cells := 0, slots := 0, locals := 0 } : Room) B0 ad D T h [.ref (ad (60)), .int (p0)] xei K 0 0 := by
  unfold XM
  refine Met.ofW (cc := cX6_linesOf) (maxL := 2) (ret := (some .int)) (by decide) rfl ?_
  intro p e s m args below meth c s₁ B hml hv
  obtain ⟨rfl, hB0, hP, hK, hN⟩ := hv
  have hx := B.exec
  have hb := B.bytes
  have hr := B.returns
  have hts := atoms_spec (ws := wsX6_linesOf) B.pre
  have hown : s.vm.findClass RX6 = some m.cls := findClass_of_methodNamed B.named
  have hlocks := B.notSynchronized
  have iX6 : ∀ w ∈ u_ws RX6 TX6 34, w ∈ wsX6_linesOf := by decide +kernel
  have f_63 := hts (.fieldLink RX6 63 "LogSpoolerModel" "ends" "[I") (by decide +kernel)
  have f_69 := hts (.fieldLink RX6 69 "LogSpoolerModel" "starts" "[I") (by decide +kernel)
  have hS : va_S (fun q => B0 ≤ q) s.heap s.heap [] := va_S.rf
  have hl := lv_entry ([.ref (ad (60)), .int (p0)]) (n := 2) (Nat.le_of_ble_eq_true rfl)
  rw [lg_entry_eq]
  generalize (lg_sl ([.ref (ad (60)), .int (p0)]) ++ List.replicate (2 - (lg_sl ([.ref (ad (60)), .int (p0)])).length) Slot.unset).toArray = ls at hl ⊢
  have hl : lv_has ls 2 [(0, .ref (ad (60))), (1, .int (p0))] := hl
  unfold w_X6_linesOf at hw
  refine lv_aload_n hx hb dX6_linesOf_0 rfl (lv_at hl 0 rfl) ?_
  refine xg_getr (C := RX6) (TC := TX6) (N := 34) hx hb hts iX6 hown hK hP xs60 rfl 19 (by decide) f_63 (fun _ h9 => h9) rfl dX6_linesOf_1 ?_
  refine lv_iload_n hx hb dX6_linesOf_4 rfl (lv_at hl 1 rfl) ?_
  obtain ⟨hi1, hw⟩ := hw
  refine xg_iald hx hb hK hP xs79 hi1 dX6_linesOf_5 ?_
  refine lv_aload_n hx hb dX6_linesOf_6 rfl (lv_at hl 0 rfl) ?_
  refine xg_getr (C := RX6) (TC := TX6) (N := 34) hx hb hts iX6 hown hK hP xs60 rfl 21 (by decide) f_69 (fun _ h9 => h9) rfl dX6_linesOf_7 ?_
  refine lv_bipush (v := 7) hx hb dX6_linesOf_10 (by decide) ?_
  refine lv_iload_n hx hb dX6_linesOf_12 rfl (lv_at hl 1 rfl) ?_
  refine lv_imul hx hb dX6_linesOf_13 ?_
  obtain ⟨hi2, hw⟩ := hw
  refine xg_iald hx hb hK hP xs81 hi2 dX6_linesOf_14 ?_
  refine lv_isub hx hb dX6_linesOf_15 ?_
  exact xg_irets hx hb hr rfl hlocks hB0 hP hK hN hS dX6_linesOf_16 (by decide) (by decide) hw
set_option maxHeartbeats 4000000 in
set_option maxRecDepth 100000 in
theorem c_X6_rotates (l : Launch) (hl9 : l.stackTraces = false) {B0 : Nat} {ad : Nat → Nat} {D : va_G} {T : Nat → ClassId} (hA : XA B0 ad) (p0 : Int32) {h : xH} {K : Unit → xH → Prop} (hw : w_X6_rotates p0 h K) : XM l yX6_rotates wsX6_rotates ({ frames := 0, cells := 0, slots := 0, locals := 0 } : Room) B0 ad D T h [.ref (ad (60)), .int (p0)] xev K 0 0 := by
  unfold XM
  refine Met.ofW (cc := cX6_rotates) (maxL := 4) (ret := none) (by decide) rfl ?_
  intro p e s m args below meth c s₁ B hml hv
  obtain ⟨rfl, hB0, hP, hK, hN⟩ := hv
  have hx := B.exec
  have hb := B.bytes
  have hr := B.returns
  have hts := atoms_spec (ws := wsX6_rotates) B.pre
  have hown : s.vm.findClass RX6 = some m.cls := findClass_of_methodNamed B.named
  have hlocks := B.notSynchronized
  have iX6 : ∀ w ∈ u_ws RX6 TX6 34, w ∈ wsX6_rotates := by decide +kernel
  have f_57 := hts (.fieldLink RX6 57 "LogSpoolerModel" "kept" "[I") (by decide +kernel)
  have f_60 := hts (.fieldLink RX6 60 "LogSpoolerModel" "sizes" "[I") (by decide +kernel)
  have f_63 := hts (.fieldLink RX6 63 "LogSpoolerModel" "ends" "[I") (by decide +kernel)
  have f_66 := hts (.fieldLink RX6 66 "LogSpoolerModel" "generations" "[I") (by decide +kernel)
  have f_69 := hts (.fieldLink RX6 69 "LogSpoolerModel" "starts" "[I") (by decide +kernel)
  have f_101 := hts (.fieldLink RX6 101 "LogSpoolerModel" "rotations" "I") (by decide +kernel)
  have hS : va_S (fun q => B0 ≤ q) s.heap s.heap [] := va_S.rf
  have hl := lv_entry ([.ref (ad (60)), .int (p0)]) (n := 4) (Nat.le_of_ble_eq_true rfl)
  rw [lg_entry_eq]
  generalize (lg_sl ([.ref (ad (60)), .int (p0)]) ++ List.replicate (4 - (lg_sl ([.ref (ad (60)), .int (p0)])).length) Slot.unset).toArray = ls at hl ⊢
  have hl : lv_has ls 4 [(0, .ref (ad (60))), (1, .int (p0))] := hl
  have j_76 : ∀ (s1 : Int32) (s2 : Int32) (s3 : Int32) (h : xH) (H : Heap) (locs : List Loc) (ls : Array Slot), w_X6_rotates_76 p0 K s1 s2 s3 h → XP ad D T h H → va_S (fun q => B0 ≤ q) s.heap H locs → lv_has ls 4 [(0, .ref (ad (60))), (1, .int (p0))] → W p l e (headSpec wsX6_rotates ({ frames := 0, cells := 0, slots := 0, locals := 0 } : Room)).room s m ([.ref (ad (60)), .int (p0)] : List Value).toArray below meth c H locs 0 0 (MQ below (XQ B0 ad D T xev K) ([.ref (ad (60)), .int (p0)] : List Value).toArray s 0 0 (fun q => B0 ≤ q)) (F0 m 76 ls [.int (s3), .int (s2), .int (s1), .ref (ad (80))]) := by
    intro s1 s2 s3 h H locs ls hw hP hS hl 
    unfold w_X6_rotates_76 at hw
    refine lv_iadd hx hb dX6_rotates_76 ?_
    obtain ⟨hi15, hw⟩ := hw
    refine xg_iast hx hb hK hP hA hS xs80 hi15 dX6_rotates_77 (fun H locs h16 eh16 hP hS => ?_)
    have hw := hw h16 eh16
    refine lv_aload_n hx hb dX6_rotates_78 rfl (lv_at hl 0 rfl) ?_
    refine xg_getr (C := RX6) (TC := TX6) (N := 34) hx hb hts iX6 hown hK hP xs60 rfl 18 (by decide) f_60 (fun _ h9 => h9) rfl dX6_rotates_79 ?_
    refine lv_iload_n hx hb dX6_rotates_82 rfl (lv_at hl 1 rfl) ?_
    refine lv_iconst (v := 0) hx hb dX6_rotates_83 (by decide) ?_
    obtain ⟨hi17, hw⟩ := hw
    refine xg_iast hx hb hK hP hA hS xs78 hi17 dX6_rotates_84 (fun H locs h18 eh18 hP hS => ?_)
    have hw := hw h18 eh18
    refine lv_aload_n hx hb dX6_rotates_85 rfl (lv_at hl 0 rfl) ?_
    refine lv_dup hx hb dX6_rotates_86 rfl ?_
    refine xg_get (C := RX6) (TC := TX6) (N := 34) hx hb hts iX6 hown hK hP xs60 rfl 30 (by decide) f_101 (fun _ h9 => h9) rfl dX6_rotates_87 ?_
    refine lv_iconst (v := 1) hx hb dX6_rotates_90 (by decide) ?_
    refine lv_iadd hx hb dX6_rotates_91 ?_
    refine xg_put (C := RX6) (TC := TX6) (N := 34) hx hb hts iX6 tyX6 tyX6_ok nmX6 hown hK hP hA hS xs60 rfl 30 (by decide) f_101 (fun _ h9 => h9) rfl rfl (ty := .int) (by decide +kernel) rfl rfl dX6_rotates_92 (fun H locs h19 eh19 hP hS => ?_)
    have hw := hw h19 eh19
    exact xg_vrets hx hb hr hlocks hB0 hP hK hN hS dX6_rotates_95 (by decide) (by decide) hw
  have j_12 : ∀ (n : Nat) (v2 : Int32) (v3 : Int32) (h : xH) (H : Heap) (locs : List Loc) (ls : Array Slot), w_X6_rotates_12 p0 K n v2 v3 h → XP ad D T h H → va_S (fun q => B0 ≤ q) s.heap H locs → lv_has ls 4 [(0, .ref (ad (60))), (1, .int (p0)), (2, .int (v2)), (3, .int (v3))] → W p l e (headSpec wsX6_rotates ({ frames := 0, cells := 0, slots := 0, locals := 0 } : Room)).room s m ([.ref (ad (60)), .int (p0)] : List Value).toArray below meth c H locs 0 0 (MQ below (XQ B0 ad D T xev K) ([.ref (ad (60)), .int (p0)] : List Value).toArray s 0 0 (fun q => B0 ≤ q)) (F0 m 12 ls []) := by
    intro n
    induction n with
    | zero => intro v2 v3 h H locs ls hw; exact hw.elim
    | succ n9 ih =>
      intro v2 v3 h H locs ls hw hP hS hl 
      rw [w_X6_rotates_12_s] at hw
      refine lv_iload_n hx hb dX6_rotates_12 rfl (lv_at hl 3 rfl) ?_
      refine lv_iload_n hx hb dX6_rotates_13 rfl (lv_at hl 2 rfl) ?_
      refine lv_icmp_le (tgt := 37) hx hb dX6_rotates_14 (by decide) (fun c3 => ?_) (fun c3 => ?_)
      · have hw := hw.1 c3
        refine lv_aload_n hx hb dX6_rotates_37 rfl (lv_at hl 0 rfl) ?_
        refine xg_getr (C := RX6) (TC := TX6) (N := 34) hx hb hts iX6 hown hK hP xs60 rfl 21 (by decide) f_69 (fun _ h9 => h9) rfl dX6_rotates_38 ?_
        refine lv_iload_n hx hb dX6_rotates_41 rfl (lv_at hl 2 rfl) ?_
        refine lv_aload_n hx hb dX6_rotates_42 rfl (lv_at hl 0 rfl) ?_
        refine xg_getr (C := RX6) (TC := TX6) (N := 34) hx hb hts iX6 hown hK hP xs60 rfl 19 (by decide) f_63 (fun _ h9 => h9) rfl dX6_rotates_43 ?_
        refine lv_iload_n hx hb dX6_rotates_46 rfl (lv_at hl 1 rfl) ?_
        obtain ⟨hi4, hw⟩ := hw
        refine xg_iald hx hb hK hP xs79 hi4 dX6_rotates_47 ?_
        obtain ⟨hi5, hw⟩ := hw
        refine xg_iast hx hb hK hP hA hS xs81 hi5 dX6_rotates_48 (fun H locs h6 eh6 hP hS => ?_)
        have hw := hw h6 eh6
        refine lv_aload_n hx hb dX6_rotates_49 rfl (lv_at hl 0 rfl) ?_
        refine xg_getr (C := RX6) (TC := TX6) (N := 34) hx hb hts iX6 hown hK hP xs60 rfl 20 (by decide) f_66 (fun _ h9 => h9) rfl dX6_rotates_50 ?_
        refine lv_iload_n hx hb dX6_rotates_53 rfl (lv_at hl 1 rfl) ?_
        refine lv_dup2_11 hx hb dX6_rotates_54 rfl rfl ?_
        obtain ⟨hi7, hw⟩ := hw
        refine xg_iald hx hb hK hP xs80 hi7 dX6_rotates_55 ?_
        refine lv_aload_n hx hb dX6_rotates_56 rfl (lv_at hl 0 rfl) ?_
        refine xg_getr (C := RX6) (TC := TX6) (N := 34) hx hb hts iX6 hown hK hP xs60 rfl 20 (by decide) f_66 (fun _ h9 => h9) rfl dX6_rotates_57 ?_
        refine lv_iload_n hx hb dX6_rotates_60 rfl (lv_at hl 1 rfl) ?_
        obtain ⟨hi8, hw⟩ := hw
        refine xg_iald hx hb hK hP xs80 hi8 dX6_rotates_61 ?_
        refine lv_aload_n hx hb dX6_rotates_62 rfl (lv_at hl 0 rfl) ?_
        refine xg_getr (C := RX6) (TC := TX6) (N := 34) hx hb hts iX6 hown hK hP xs60 rfl 17 (by decide) f_57 (fun _ h9 => h9) rfl dX6_rotates_63 ?_
        refine lv_iload_n hx hb dX6_rotates_66 rfl (lv_at hl 1 rfl) ?_
        obtain ⟨hi9, hw⟩ := hw
        refine xg_iald hx hb hK hP xs77 hi9 dX6_rotates_67 ?_
        refine lv_icmp_ge (tgt := 75) hx hb dX6_rotates_68 (by decide) (fun c10 => ?_) (fun c10 => ?_)
        · have hw := hw.1 c10
          refine lv_iconst (v := 0) hx hb dX6_rotates_75 (by decide) ?_
          exact j_76 (p0) ((h6 80 p0.toNatClampNeg)) (0) _ _ _ _ hw hP hS (lv_sub hl [0, 1] rfl)
        · have hw := hw.2 c10
          refine lv_iconst (v := 1) hx hb dX6_rotates_71 (by decide) ?_
          refine lv_goto (tgt := 76) hx hb dX6_rotates_72 (by decide) ?_
          exact j_76 (p0) ((h6 80 p0.toNatClampNeg)) (1) _ _ _ _ hw hP hS (lv_sub hl [0, 1] rfl)
      · have hw := hw.2 c3
        refine lv_aload_n hx hb dX6_rotates_17 rfl (lv_at hl 0 rfl) ?_
        refine xg_getr (C := RX6) (TC := TX6) (N := 34) hx hb hts iX6 hown hK hP xs60 rfl 21 (by decide) f_69 (fun _ h9 => h9) rfl dX6_rotates_18 ?_
        refine lv_iload_n hx hb dX6_rotates_21 rfl (lv_at hl 3 rfl) ?_
        refine lv_aload_n hx hb dX6_rotates_22 rfl (lv_at hl 0 rfl) ?_
        refine xg_getr (C := RX6) (TC := TX6) (N := 34) hx hb hts iX6 hown hK hP xs60 rfl 21 (by decide) f_69 (fun _ h9 => h9) rfl dX6_rotates_23 ?_
        refine lv_iload_n hx hb dX6_rotates_26 rfl (lv_at hl 3 rfl) ?_
        refine lv_iconst (v := 1) hx hb dX6_rotates_27 (by decide) ?_
        refine lv_isub hx hb dX6_rotates_28 ?_
        obtain ⟨hi11, hw⟩ := hw
        refine xg_iald hx hb hK hP xs81 hi11 dX6_rotates_29 ?_
        obtain ⟨hi12, hw⟩ := hw
        refine xg_iast hx hb hK hP hA hS xs81 hi12 dX6_rotates_30 (fun H locs h13 eh13 hP hS => ?_)
        have hw := hw h13 eh13
        obtain ⟨x14, ex14⟩ : ∃ z : Int32, z = v3 + (-1) := ⟨_, rfl⟩
        have hw := hw x14 ex14
        refine lv_iinc (v := x14) (lv' := [(3, .int (x14)), (0, .ref (ad (60))), (1, .int (p0)), (2, .int (v2))]) hx hb dX6_rotates_31 hl (k := 3) rfl (by rw [ex14]; rfl) (by decide) rfl (fun ls hl => ?_)
        refine lv_goto (tgt := 12) hx hb dX6_rotates_34 (by decide) ?_
        exact ih (v2) (x14) _ _ _ _ hw hP hS (lv_sub hl [1, 2, 3, 0] rfl)
  unfold w_X6_rotates at hw
  refine lv_bipush (v := 7) hx hb dX6_rotates_0 (by decide) ?_
  refine lv_iload_n hx hb dX6_rotates_2 rfl (lv_at hl 1 rfl) ?_
  refine lv_imul hx hb dX6_rotates_3 ?_
  refine lv_topi (fun x1 ex1 => ?_)
  have hw := hw x1 ex1
  refine lv_istore_n (lv' := [(2, .int (x1)), (0, .ref (ad (60))), (1, .int (p0))]) hx hb dX6_rotates_4 rfl hl (by decide) rfl (fun ls hl => ?_)
  refine lv_iload_n hx hb dX6_rotates_5 rfl (lv_at hl 0 rfl) ?_
  refine lv_bipush (v := 7) hx hb dX6_rotates_6 (by decide) ?_
  refine lv_iadd hx hb dX6_rotates_8 ?_
  refine lv_iconst (v := 1) hx hb dX6_rotates_9 (by decide) ?_
  refine lv_isub hx hb dX6_rotates_10 ?_
  refine lv_topi (fun x2 ex2 => ?_)
  have hw := hw x2 ex2
  refine lv_istore_n (lv' := [(3, .int (x2)), (2, .int (x1)), (0, .ref (ad (60))), (1, .int (p0))]) hx hb dX6_rotates_11 rfl hl (by decide) rfl (fun ls hl => ?_)
  obtain ⟨n9, hw⟩ := hw
  exact j_12 n9 (x1) (x2) _ _ _ _ hw hP hS (lv_sub hl [2, 3, 1, 0] rfl)
set_option maxHeartbeats 4000000 in
set_option maxRecDepth 100000 in
theorem c_X6_comesTo (l : Launch) (hl9 : l.stackTraces = false) {B0 : Nat} {ad : Nat → Nat} {D : va_G} {T : Nat → ClassId} (hA : XA B0 ad) (p0 : Int32) (p1 : Int32) (p2 : Int32) {h : xH} {K : Unit → xH → Prop} (hw : w_X6_comesTo p0 p1 p2 h K) : XM l yX6_comesTo wsX6_comesTo ({ frames := 1, cells := 0, slots := 0, locals := 23 } : Room) B0 ad D T h [.ref (ad (60)), .int (p0), .int (p1), .int (p2)] xev K 0 0 := by
  unfold XM
  refine Met.ofW (cc := cX6_comesTo) (maxL := 4) (ret := none) (by decide) rfl ?_
  intro p e s m args below meth c s₁ B hml hv
  obtain ⟨rfl, hB0, hP, hK, hN⟩ := hv
  have hx := B.exec
  have hb := B.bytes
  have hr := B.returns
  have hts := atoms_spec (ws := wsX6_comesTo) B.pre
  have hown : s.vm.findClass RX6 = some m.cls := findClass_of_methodNamed B.named
  have hlocks := B.notSynchronized
  have iX6 : ∀ w ∈ u_ws RX6 TX6 34, w ∈ wsX6_comesTo := by decide +kernel
  have f_51 := hts (.fieldLink RX6 51 "LogSpoolerModel" "most" "[I") (by decide +kernel)
  have f_60 := hts (.fieldLink RX6 60 "LogSpoolerModel" "sizes" "[I") (by decide +kernel)
  have f_63 := hts (.fieldLink RX6 63 "LogSpoolerModel" "ends" "[I") (by decide +kernel)
  have f_72 := hts (.fieldLink RX6 72 "LogSpoolerModel" "lines" "[I") (by decide +kernel)
  have f_75 := hts (.fieldLink RX6 75 "LogSpoolerModel" "times" "[I") (by decide +kernel)
  have f_112 := hts (.fieldLink RX6 112 "LogSpoolerModel" "time" "I") (by decide +kernel)
  have hS : va_S (fun q => B0 ≤ q) s.heap s.heap [] := va_S.rf
  have hl := lv_entry ([.ref (ad (60)), .int (p0), .int (p1), .int (p2)]) (n := 4) (Nat.le_of_ble_eq_true rfl)
  rw [lg_entry_eq]
  generalize (lg_sl ([.ref (ad (60)), .int (p0), .int (p1), .int (p2)]) ++ List.replicate (4 - (lg_sl ([.ref (ad (60)), .int (p0), .int (p1), .int (p2)])).length) Slot.unset).toArray = ls at hl ⊢
  have hl : lv_has ls 4 [(0, .ref (ad (60))), (1, .int (p0)), (2, .int (p1)), (3, .int (p2))] := hl
  have j_30 : ∀ (h : xH) (H : Heap) (locs : List Loc) (ls : Array Slot), w_X6_comesTo_30 p0 p1 p2 K h → XP ad D T h H → va_S (fun q => B0 ≤ q) s.heap H locs → lv_has ls 4 [(0, .ref (ad (60))), (1, .int (p0)), (2, .int (p1)), (3, .int (p2))] → W p l e (headSpec wsX6_comesTo ({ frames := 1, cells := 0, slots := 0, locals := 23 } : Room)).room s m ([.ref (ad (60)), .int (p0), .int (p1), .int (p2)] : List Value).toArray below meth c H locs 0 0 (MQ below (XQ B0 ad D T xev K) ([.ref (ad (60)), .int (p0), .int (p1), .int (p2)] : List Value).toArray s 0 0 (fun q => B0 ≤ q)) (F0 m 30 ls []) := by
    intro h H locs ls hw hP hS hl 
    unfold w_X6_comesTo_30 at hw
    refine lv_aload_n hx hb dX6_comesTo_30 rfl (lv_at hl 0 rfl) ?_
    refine xg_getr (C := RX6) (TC := TX6) (N := 34) hx hb hts iX6 hown hK hP xs60 rfl 22 (by decide) f_72 (fun _ h9 => h9) rfl dX6_comesTo_31 ?_
    refine lv_sipush (v := 400) hx hb dX6_comesTo_34 (by decide) ?_
    refine lv_iload_n hx hb dX6_comesTo_37 rfl (lv_at hl 1 rfl) ?_
    refine lv_imul hx hb dX6_comesTo_38 ?_
    refine lv_aload_n hx hb dX6_comesTo_39 rfl (lv_at hl 0 rfl) ?_
    refine xg_getr (C := RX6) (TC := TX6) (N := 34) hx hb hts iX6 hown hK hP xs60 rfl 19 (by decide) f_63 (fun _ h9 => h9) rfl dX6_comesTo_40 ?_
    refine lv_iload_n hx hb dX6_comesTo_43 rfl (lv_at hl 1 rfl) ?_
    obtain ⟨hi9, hw⟩ := hw
    refine xg_iald hx hb hK hP xs79 hi9 dX6_comesTo_44 ?_
    refine lv_iadd hx hb dX6_comesTo_45 ?_
    refine lv_iload_n hx hb dX6_comesTo_46 rfl (lv_at hl 2 rfl) ?_
    obtain ⟨hi10, hw⟩ := hw
    refine xg_iast hx hb hK hP hA hS xs82 hi10 dX6_comesTo_47 (fun H locs h11 eh11 hP hS => ?_)
    have hw := hw h11 eh11
    refine lv_aload_n hx hb dX6_comesTo_48 rfl (lv_at hl 0 rfl) ?_
    refine xg_getr (C := RX6) (TC := TX6) (N := 34) hx hb hts iX6 hown hK hP xs60 rfl 23 (by decide) f_75 (fun _ h9 => h9) rfl dX6_comesTo_49 ?_
    refine lv_sipush (v := 400) hx hb dX6_comesTo_52 (by decide) ?_
    refine lv_iload_n hx hb dX6_comesTo_55 rfl (lv_at hl 1 rfl) ?_
    refine lv_imul hx hb dX6_comesTo_56 ?_
    refine lv_aload_n hx hb dX6_comesTo_57 rfl (lv_at hl 0 rfl) ?_
    refine xg_getr (C := RX6) (TC := TX6) (N := 34) hx hb hts iX6 hown hK hP xs60 rfl 19 (by decide) f_63 (fun _ h9 => h9) rfl dX6_comesTo_58 ?_
    refine lv_iload_n hx hb dX6_comesTo_61 rfl (lv_at hl 1 rfl) ?_
    obtain ⟨hi12, hw⟩ := hw
    refine xg_iald hx hb hK hP xs79 hi12 dX6_comesTo_62 ?_
    refine lv_iadd hx hb dX6_comesTo_63 ?_
    refine lv_aload_n hx hb dX6_comesTo_64 rfl (lv_at hl 0 rfl) ?_
    refine xg_get (C := RX6) (TC := TX6) (N := 34) hx hb hts iX6 hown hK hP xs60 rfl 1 (by decide) f_112 (fun _ h9 => h9) rfl dX6_comesTo_65 ?_
    obtain ⟨hi13, hw⟩ := hw
    refine xg_iast hx hb hK hP hA hS xs83 hi13 dX6_comesTo_68 (fun H locs h14 eh14 hP hS => ?_)
    have hw := hw h14 eh14
    refine lv_aload_n hx hb dX6_comesTo_69 rfl (lv_at hl 0 rfl) ?_
    refine xg_getr (C := RX6) (TC := TX6) (N := 34) hx hb hts iX6 hown hK hP xs60 rfl 19 (by decide) f_63 (fun _ h9 => h9) rfl dX6_comesTo_70 ?_
    refine lv_iload_n hx hb dX6_comesTo_73 rfl (lv_at hl 1 rfl) ?_
    refine lv_dup2_11 hx hb dX6_comesTo_74 rfl rfl ?_
    obtain ⟨hi15, hw⟩ := hw
    refine xg_iald hx hb hK hP xs79 hi15 dX6_comesTo_75 ?_
    refine lv_iconst (v := 1) hx hb dX6_comesTo_76 (by decide) ?_
    refine lv_iadd hx hb dX6_comesTo_77 ?_
    obtain ⟨hi16, hw⟩ := hw
    refine xg_iast hx hb hK hP hA hS xs79 hi16 dX6_comesTo_78 (fun H locs h17 eh17 hP hS => ?_)
    have hw := hw h17 eh17
    refine lv_aload_n hx hb dX6_comesTo_79 rfl (lv_at hl 0 rfl) ?_
    refine xg_getr (C := RX6) (TC := TX6) (N := 34) hx hb hts iX6 hown hK hP xs60 rfl 18 (by decide) f_60 (fun _ h9 => h9) rfl dX6_comesTo_80 ?_
    refine lv_iload_n hx hb dX6_comesTo_83 rfl (lv_at hl 1 rfl) ?_
    refine lv_dup2_11 hx hb dX6_comesTo_84 rfl rfl ?_
    obtain ⟨hi18, hw⟩ := hw
    refine xg_iald hx hb hK hP xs78 hi18 dX6_comesTo_85 ?_
    refine lv_iload_n hx hb dX6_comesTo_86 rfl (lv_at hl 3 rfl) ?_
    refine lv_iadd hx hb dX6_comesTo_87 ?_
    obtain ⟨hi19, hw⟩ := hw
    refine xg_iast hx hb hK hP hA hS xs78 hi19 dX6_comesTo_88 (fun H locs h20 eh20 hP hS => ?_)
    have hw := hw h20 eh20
    exact xg_vrets hx hb hr hlocks hB0 hP hK hN hS dX6_comesTo_89 (by decide) (by decide) hw
  unfold w_X6_comesTo at hw
  refine lv_aload_n hx hb dX6_comesTo_0 rfl (lv_at hl 0 rfl) ?_
  refine lv_iload_n hx hb dX6_comesTo_1 rfl (lv_at hl 1 rfl) ?_
  refine xg_calli (va_runV (As := [.int (p0)]) (rest := []) ⟨hx, hb, hml, hown, hts⟩ (c_X6_linesOf l hl9 hA p0 hw) (cwV 1 hts gX6_comesTo_X6_linesOf rfl rfl rfl (by decide +kernel) ⟨Nat.le_of_ble_eq_true rfl, Nat.le_of_ble_eq_true rfl⟩) (xg_preV hB0 hP hK hN hS xs60 rfl) rfl rfl hl.1 rfl (lv_room (Nat.le_of_ble_eq_true rfl)) dX6_comesTo_2 ⟨Nat.le_of_ble_eq_true rfl, Nat.le_of_ble_eq_true rfl⟩) hS (fun r1 h2 H locs hw hP hS => ?_)
  refine lv_if_le (tgt := 30) hx hb dX6_comesTo_5 (by decide) (fun c3 => ?_) (fun c3 => ?_)
  · have hw := hw.1 c3
    exact j_30  _ _ _ _ hw hP hS (lv_sub hl [0, 1, 2, 3] rfl)
  · have hw := hw.2 c3
    refine lv_aload_n hx hb dX6_comesTo_8 rfl (lv_at hl 0 rfl) ?_
    refine xg_getr (C := RX6) (TC := TX6) (N := 34) hx hb hts iX6 hown hK hP xs60 rfl 18 (by decide) f_60 (fun _ h9 => h9) rfl dX6_comesTo_9 ?_
    refine lv_iload_n hx hb dX6_comesTo_12 rfl (lv_at hl 1 rfl) ?_
    obtain ⟨hi4, hw⟩ := hw
    refine xg_iald hx hb hK hP xs78 hi4 dX6_comesTo_13 ?_
    refine lv_iload_n hx hb dX6_comesTo_14 rfl (lv_at hl 3 rfl) ?_
    refine lv_iadd hx hb dX6_comesTo_15 ?_
    refine lv_aload_n hx hb dX6_comesTo_16 rfl (lv_at hl 0 rfl) ?_
    refine xg_getr (C := RX6) (TC := TX6) (N := 34) hx hb hts iX6 hown hK hP xs60 rfl 15 (by decide) f_51 (fun _ h9 => h9) rfl dX6_comesTo_17 ?_
    refine lv_iload_n hx hb dX6_comesTo_20 rfl (lv_at hl 1 rfl) ?_
    obtain ⟨hi5, hw⟩ := hw
    refine xg_iald hx hb hK hP xs75 hi5 dX6_comesTo_21 ?_
    refine lv_icmp_le (tgt := 30) hx hb dX6_comesTo_22 (by decide) (fun c6 => ?_) (fun c6 => ?_)
    · have hw := hw.1 c6
      exact j_30  _ _ _ _ hw hP hS (lv_sub hl [0, 1, 2, 3] rfl)
    · have hw := hw.2 c6
      refine lv_aload_n hx hb dX6_comesTo_25 rfl (lv_at hl 0 rfl) ?_
      refine lv_iload_n hx hb dX6_comesTo_26 rfl (lv_at hl 1 rfl) ?_
      refine xg_callv (va_runV (As := [.int (p0)]) (rest := []) ⟨hx, hb, hml, hown, hts⟩ (c_X6_rotates l hl9 hA p0 hw) (cwV 1 hts gX6_comesTo_X6_rotates rfl rfl rfl (by decide +kernel) ⟨Nat.le_of_ble_eq_true rfl, Nat.le_of_ble_eq_true rfl⟩) (xg_preV hB0 hP hK hN hS xs60 rfl) rfl rfl hl.1 rfl (lv_room (Nat.le_of_ble_eq_true rfl)) dX6_comesTo_27 ⟨Nat.le_of_ble_eq_true rfl, Nat.le_of_ble_eq_true rfl⟩) hS (fun _ h8 H locs hw hP hS => ?_)
      exact j_30  _ _ _ _ hw hP hS (lv_sub hl [0, 1, 2, 3] rfl)
set_option maxHeartbeats 4000000 in
set_option maxRecDepth 100000 in
theorem c_X6_forwards (l : Launch) (hl9 : l.stackTraces = false) {B0 : Nat} {ad : Nat → Nat} {D : va_G} {T : Nat → ClassId} (hA : XA B0 ad) (p0 : Int32) {h : xH} {K : Unit → xH → Prop} (hw : w_X6_forwards p0 h K) : XM l yX6_forwards wsX6_forwards ({ frames := 0, cells := 0, slots := 0, locals := 0 } : Room) B0 ad D T h [.ref (ad (60)), .int (p0)] xev K 0 0 := by
  unfold XM
  refine Met.ofW (cc := cX6_forwards) (maxL := 2) (ret := none) (by decide) rfl ?_
  intro p e s m args below meth c s₁ B hml hv
  obtain ⟨rfl, hB0, hP, hK, hN⟩ := hv
  have hx := B.exec
  have hb := B.bytes
  have hr := B.returns
  have hts := atoms_spec (ws := wsX6_forwards) B.pre
  have hown : s.vm.findClass RX6 = some m.cls := findClass_of_methodNamed B.named
  have hlocks := B.notSynchronized
  have iX6 : ∀ w ∈ u_ws RX6 TX6 34, w ∈ wsX6_forwards := by decide +kernel
  have f_78 := hts (.fieldLink RX6 78 "LogSpoolerModel" "forwarded" "[I") (by decide +kernel)
  have f_115 := hts (.fieldLink RX6 115 "LogSpoolerModel" "taken" "I") (by decide +kernel)
  have f_118 := hts (.fieldLink RX6 118 "LogSpoolerModel" "acknowledged" "I") (by decide +kernel)
  have f_121 := hts (.fieldLink RX6 121 "LogSpoolerModel" "lost" "I") (by decide +kernel)
  have hS : va_S (fun q => B0 ≤ q) s.heap s.heap [] := va_S.rf
  have hl := lv_entry ([.ref (ad (60)), .int (p0)]) (n := 2) (Nat.le_of_ble_eq_true rfl)
  rw [lg_entry_eq]
  generalize (lg_sl ([.ref (ad (60)), .int (p0)]) ++ List.replicate (2 - (lg_sl ([.ref (ad (60)), .int (p0)])).length) Slot.unset).toArray = ls at hl ⊢
  have hl : lv_has ls 2 [(0, .ref (ad (60))), (1, .int (p0))] := hl
  unfold w_X6_forwards at hw
  refine lv_aload_n hx hb dX6_forwards_0 rfl (lv_at hl 0 rfl) ?_
  refine xg_get (C := RX6) (TC := TX6) (N := 34) hx hb hts iX6 hown hK hP xs60 rfl 26 (by decide) f_115 (fun _ h9 => h9) rfl dX6_forwards_1 ?_
  refine lv_aload_n hx hb dX6_forwards_4 rfl (lv_at hl 0 rfl) ?_
  refine xg_get (C := RX6) (TC := TX6) (N := 34) hx hb hts iX6 hown hK hP xs60 rfl 28 (by decide) f_118 (fun _ h9 => h9) rfl dX6_forwards_5 ?_
  refine lv_isub hx hb dX6_forwards_8 ?_
  refine lv_bipush (v := 30) hx hb dX6_forwards_9 (by decide) ?_
  refine lv_icmp_lt (tgt := 27) hx hb dX6_forwards_11 (by decide) (fun c1 => ?_) (fun c1 => ?_)
  · have hw := hw.1 c1
    refine lv_aload_n hx hb dX6_forwards_27 rfl (lv_at hl 0 rfl) ?_
    refine xg_getr (C := RX6) (TC := TX6) (N := 34) hx hb hts iX6 hown hK hP xs60 rfl 25 (by decide) f_78 (fun _ h9 => h9) rfl dX6_forwards_28 ?_
    refine lv_aload_n hx hb dX6_forwards_31 rfl (lv_at hl 0 rfl) ?_
    refine xg_get (C := RX6) (TC := TX6) (N := 34) hx hb hts iX6 hown hK hP xs60 rfl 26 (by decide) f_115 (fun _ h9 => h9) rfl dX6_forwards_32 ?_
    refine lv_iload_n hx hb dX6_forwards_35 rfl (lv_at hl 1 rfl) ?_
    obtain ⟨hi2, hw⟩ := hw
    refine xg_iast hx hb hK hP hA hS xs85 hi2 dX6_forwards_36 (fun H locs h3 eh3 hP hS => ?_)
    have hw := hw h3 eh3
    refine lv_aload_n hx hb dX6_forwards_37 rfl (lv_at hl 0 rfl) ?_
    refine lv_dup hx hb dX6_forwards_38 rfl ?_
    refine xg_get (C := RX6) (TC := TX6) (N := 34) hx hb hts iX6 hown hK hP xs60 rfl 26 (by decide) f_115 (fun _ h9 => h9) rfl dX6_forwards_39 ?_
    refine lv_iconst (v := 1) hx hb dX6_forwards_42 (by decide) ?_
    refine lv_iadd hx hb dX6_forwards_43 ?_
    refine xg_put (C := RX6) (TC := TX6) (N := 34) hx hb hts iX6 tyX6 tyX6_ok nmX6 hown hK hP hA hS xs60 rfl 26 (by decide) f_115 (fun _ h9 => h9) rfl rfl (ty := .int) (by decide +kernel) rfl rfl dX6_forwards_44 (fun H locs h4 eh4 hP hS => ?_)
    have hw := hw h4 eh4
    exact xg_vrets hx hb hr hlocks hB0 hP hK hN hS dX6_forwards_47 (by decide) (by decide) hw
  · have hw := hw.2 c1
    refine lv_aload_n hx hb dX6_forwards_14 rfl (lv_at hl 0 rfl) ?_
    refine lv_dup hx hb dX6_forwards_15 rfl ?_
    refine xg_get (C := RX6) (TC := TX6) (N := 34) hx hb hts iX6 hown hK hP xs60 rfl 29 (by decide) f_121 (fun _ h9 => h9) rfl dX6_forwards_16 ?_
    refine lv_iconst (v := 1) hx hb dX6_forwards_19 (by decide) ?_
    refine lv_iadd hx hb dX6_forwards_20 ?_
    refine xg_put (C := RX6) (TC := TX6) (N := 34) hx hb hts iX6 tyX6 tyX6_ok nmX6 hown hK hP hA hS xs60 rfl 29 (by decide) f_121 (fun _ h9 => h9) rfl rfl (ty := .int) (by decide +kernel) rfl rfl dX6_forwards_21 (fun H locs h5 eh5 hP hS => ?_)
    have hw := hw h5 eh5
    refine lv_goto (tgt := 47) hx hb dX6_forwards_24 (by decide) ?_
    exact xg_vrets hx hb hr hlocks hB0 hP hK hN hS dX6_forwards_47 (by decide) (by decide) hw
set_option maxHeartbeats 4000000 in
set_option maxRecDepth 100000 in
theorem c_X6_goes (l : Launch) (hl9 : l.stackTraces = false) {B0 : Nat} {ad : Nat → Nat} {D : va_G} {T : Nat → ClassId} (hA : XA B0 ad) (p0 : Int32) (p1 : Int32) (p2 : Int32) (p3 : Int32) (p4 : Int32) {h : xH} {K : Int32 → xH → Prop} (hw : w_X6_goes p0 p1 p2 p3 p4 h K) : XM l yX6_goes wsX6_goes ({ frames := 2, cells := 0, slots := 0, locals := 46 } : Room) B0 ad D T h [.ref (ad (60)), .int (p0), .int (p1), .int (p2), .int (p3), .int (p4)] xei K 0 0 := by
  unfold XM
  refine Met.ofW (cc := cX6_goes) (maxL := 9) (ret := (some .int)) (by decide) rfl ?_
  intro p e s m args below meth c s₁ B hml hv
  obtain ⟨rfl, hB0, hP, hK, hN⟩ := hv
  have hx := B.exec
  have hb := B.bytes
  have hr := B.returns
  have hts := atoms_spec (ws := wsX6_goes) B.pre
  have hown : s.vm.findClass RX6 = some m.cls := findClass_of_methodNamed B.named
  have hlocks := B.notSynchronized
  have iX6 : ∀ w ∈ u_ws RX6 TX6 34, w ∈ wsX6_goes := by decide +kernel
  have f_35 := hts (.fieldLink RX6 35 "LogSpoolerModel" "isSet" "[Z") (by decide +kernel)
  have f_39 := hts (.fieldLink RX6 39 "LogSpoolerModel" "facilities" "[I") (by decide +kernel)
  have f_42 := hts (.fieldLink RX6 42 "LogSpoolerModel" "severities" "[I") (by decide +kernel)
  have f_45 := hts (.fieldLink RX6 45 "LogSpoolerModel" "senders" "[I") (by decide +kernel)
  have f_48 := hts (.fieldLink RX6 48 "LogSpoolerModel" "targets" "[I") (by decide +kernel)
  have hS : va_S (fun q => B0 ≤ q) s.heap s.heap [] := va_S.rf
  have hl := lv_entry ([.ref (ad (60)), .int (p0), .int (p1), .int (p2), .int (p3), .int (p4)]) (n := 9) (Nat.le_of_ble_eq_true rfl)
  rw [lg_entry_eq]
  generalize (lg_sl ([.ref (ad (60)), .int (p0), .int (p1), .int (p2), .int (p3), .int (p4)]) ++ List.replicate (9 - (lg_sl ([.ref (ad (60)), .int (p0), .int (p1), .int (p2), .int (p3), .int (p4)])).length) Slot.unset).toArray = ls at hl ⊢
  have hl : lv_has ls 9 [(0, .ref (ad (60))), (1, .int (p0)), (2, .int (p1)), (3, .int (p2)), (4, .int (p3)), (5, .int (p4))] := hl
  have j_147 : ∀ (R9 : Int32 → Int32 → xH → Prop) (hR9 : ∀ (v6 : Int32) (v7 : Int32) (h : xH) (H : Heap) (locs : List Loc) (ls : Array Slot), R9 v6 v7 h → XP ad D T h H → va_S (fun q => B0 ≤ q) s.heap H locs → lv_has ls 9 [(0, .ref (ad (60))), (1, .int (p0)), (2, .int (p1)), (3, .int (p2)), (4, .int (p3)), (5, .int (p4)), (6, .int (v6)), (7, .int (v7))] → W p l e (headSpec wsX6_goes ({ frames := 2, cells := 0, slots := 0, locals := 46 } : Room)).room s m ([.ref (ad (60)), .int (p0), .int (p1), .int (p2), .int (p3), .int (p4)] : List Value).toArray below meth c H locs 0 0 (MQ below (XQ B0 ad D T xei K) ([.ref (ad (60)), .int (p0), .int (p1), .int (p2), .int (p3), .int (p4)] : List Value).toArray s 0 0 (fun q => B0 ≤ q)) (F0 m 6 ls [])) (v6 : Int32) (v7 : Int32) (h : xH) (H : Heap) (locs : List Loc) (ls : Array Slot), w_X6_goes_147 p0 p1 p2 p3 p4 K R9 v6 v7 h → XP ad D T h H → va_S (fun q => B0 ≤ q) s.heap H locs → lv_has ls 9 [(0, .ref (ad (60))), (1, .int (p0)), (2, .int (p1)), (3, .int (p2)), (4, .int (p3)), (5, .int (p4)), (6, .int (v6)), (7, .int (v7))] → W p l e (headSpec wsX6_goes ({ frames := 2, cells := 0, slots := 0, locals := 46 } : Room)).room s m ([.ref (ad (60)), .int (p0), .int (p1), .int (p2), .int (p3), .int (p4)] : List Value).toArray below meth c H locs 0 0 (MQ below (XQ B0 ad D T xei K) ([.ref (ad (60)), .int (p0), .int (p1), .int (p2), .int (p3), .int (p4)] : List Value).toArray s 0 0 (fun q => B0 ≤ q)) (F0 m 147 ls []) := by
    intro R9 hR9 v6 v7 h H locs ls hw hP hS hl 
    unfold w_X6_goes_147 at hw
    obtain ⟨x24, ex24⟩ : ∃ z : Int32, z = v7 + 1 := ⟨_, rfl⟩
    have hw := hw x24 ex24
    refine lv_iinc (v := x24) (lv' := [(7, .int (x24)), (0, .ref (ad (60))), (1, .int (p0)), (2, .int (p1)), (3, .int (p2)), (4, .int (p3)), (5, .int (p4)), (6, .int (v6))]) hx hb dX6_goes_147 hl (k := 7) rfl (by rw [ex24]; rfl) (by decide) rfl (fun ls hl => ?_)
    refine lv_goto (tgt := 6) hx hb dX6_goes_150 (by decide) ?_
    exact hR9 (v6) (x24) _ _ _ _ hw hP hS (lv_sub hl [1, 2, 3, 4, 5, 6, 7, 0] rfl)
  have j_76 : ∀ (R9 : Int32 → Int32 → xH → Prop) (hR9 : ∀ (v6 : Int32) (v7 : Int32) (h : xH) (H : Heap) (locs : List Loc) (ls : Array Slot), R9 v6 v7 h → XP ad D T h H → va_S (fun q => B0 ≤ q) s.heap H locs → lv_has ls 9 [(0, .ref (ad (60))), (1, .int (p0)), (2, .int (p1)), (3, .int (p2)), (4, .int (p3)), (5, .int (p4)), (6, .int (v6)), (7, .int (v7))] → W p l e (headSpec wsX6_goes ({ frames := 2, cells := 0, slots := 0, locals := 46 } : Room)).room s m ([.ref (ad (60)), .int (p0), .int (p1), .int (p2), .int (p3), .int (p4)] : List Value).toArray below meth c H locs 0 0 (MQ below (XQ B0 ad D T xei K) ([.ref (ad (60)), .int (p0), .int (p1), .int (p2), .int (p3), .int (p4)] : List Value).toArray s 0 0 (fun q => B0 ≤ q)) (F0 m 6 ls [])) (v6 : Int32) (v7 : Int32) (s0 : Int32) (h : xH) (H : Heap) (locs : List Loc) (ls : Array Slot), w_X6_goes_76 p0 p1 p2 p3 p4 K R9 v6 v7 s0 h → XP ad D T h H → va_S (fun q => B0 ≤ q) s.heap H locs → lv_has ls 9 [(0, .ref (ad (60))), (1, .int (p0)), (2, .int (p1)), (3, .int (p2)), (4, .int (p3)), (5, .int (p4)), (6, .int (v6)), (7, .int (v7))] → W p l e (headSpec wsX6_goes ({ frames := 2, cells := 0, slots := 0, locals := 46 } : Room)).room s m ([.ref (ad (60)), .int (p0), .int (p1), .int (p2), .int (p3), .int (p4)] : List Value).toArray below meth c H locs 0 0 (MQ below (XQ B0 ad D T xei K) ([.ref (ad (60)), .int (p0), .int (p1), .int (p2), .int (p3), .int (p4)] : List Value).toArray s 0 0 (fun q => B0 ≤ q)) (F0 m 76 ls [.int (s0)]) := by
    intro R9 hR9 v6 v7 s0 h H locs ls hw hP hS hl 
    unfold w_X6_goes_76 at hw
    refine lv_istore (lv' := [(8, .int (s0)), (0, .ref (ad (60))), (1, .int (p0)), (2, .int (p1)), (3, .int (p2)), (4, .int (p3)), (5, .int (p4)), (6, .int (v6)), (7, .int (v7))]) hx hb dX6_goes_76 hl (by decide) rfl (fun ls hl => ?_)
    refine lv_iload hx hb dX6_goes_78 (lv_at hl 0 rfl) ?_
    refine lv_if_eq (tgt := 147) hx hb dX6_goes_80 (by decide) (fun c12 => ?_) (fun c12 => ?_)
    · have hw := hw.1 c12
      exact j_147 _ (hR9) (v6) (v7) _ _ _ _ hw hP hS (lv_sub hl [1, 2, 3, 4, 5, 6, 7, 8] rfl)
    · have hw := hw.2 c12
      refine lv_iload hx hb dX6_goes_83 (lv_at hl 7 rfl) ?_
      refine lv_aload_n hx hb dX6_goes_85 rfl (lv_at hl 1 rfl) ?_
      refine xg_getr (C := RX6) (TC := TX6) (N := 34) hx hb hts iX6 hown hK hP xs60 rfl 14 (by decide) f_48 (fun _ h9 => h9) rfl dX6_goes_86 ?_
      refine lv_iload hx hb dX6_goes_89 (lv_at hl 8 rfl) ?_
      obtain ⟨hi13, hw⟩ := hw
      refine xg_iald hx hb hK hP xs74 hi13 dX6_goes_91 ?_
      refine lv_ishr hx hb dX6_goes_92 ?_
      refine lv_iconst (v := 1) hx hb dX6_goes_93 (by decide) ?_
      refine lv_iand hx hb dX6_goes_94 ?_
      refine lv_if_ne (tgt := 147) hx hb dX6_goes_95 (by decide) (fun c14 => ?_) (fun c14 => ?_)
      · have hw := hw.2 c14
        exact j_147 _ (hR9) (v6) (v7) _ _ _ _ hw hP hS (lv_sub hl [1, 2, 3, 4, 5, 6, 7, 8] rfl)
      · have hw := hw.1 c14
        refine lv_iload hx hb dX6_goes_98 (lv_at hl 7 rfl) ?_
        refine lv_iconst (v := 1) hx hb dX6_goes_100 (by decide) ?_
        refine lv_aload_n hx hb dX6_goes_101 rfl (lv_at hl 1 rfl) ?_
        refine xg_getr (C := RX6) (TC := TX6) (N := 34) hx hb hts iX6 hown hK hP xs60 rfl 14 (by decide) f_48 (fun _ h9 => h9) rfl dX6_goes_102 ?_
        refine lv_iload hx hb dX6_goes_105 (lv_at hl 8 rfl) ?_
        obtain ⟨hi15, hw⟩ := hw
        refine xg_iald hx hb hK hP xs74 hi15 dX6_goes_107 ?_
        refine lv_ishl hx hb dX6_goes_108 ?_
        refine lv_ior hx hb dX6_goes_109 ?_
        refine lv_topi (fun x16 ex16 => ?_)
        have hw := hw x16 ex16
        refine lv_istore (lv' := [(6, .int (x16)), (8, .int (s0)), (0, .ref (ad (60))), (1, .int (p0)), (2, .int (p1)), (3, .int (p2)), (4, .int (p3)), (5, .int (p4)), (7, .int (v7))]) hx hb dX6_goes_110 hl (by decide) rfl (fun ls hl => ?_)
        refine lv_aload_n hx hb dX6_goes_112 rfl (lv_at hl 2 rfl) ?_
        refine xg_getr (C := RX6) (TC := TX6) (N := 34) hx hb hts iX6 hown hK hP xs60 rfl 14 (by decide) f_48 (fun _ h9 => h9) rfl dX6_goes_113 ?_
        refine lv_iload hx hb dX6_goes_116 (lv_at hl 8 rfl) ?_
        obtain ⟨hi17, hw⟩ := hw
        refine xg_iald hx hb hK hP xs74 hi17 dX6_goes_118 ?_
        refine lv_iconst (v := 4) hx hb dX6_goes_119 (by decide) ?_
        refine lv_icmp_ne (tgt := 132) hx hb dX6_goes_120 (by decide) (fun c18 => ?_) (fun c18 => ?_)
        · have hw := hw.2 c18
          refine lv_aload_n hx hb dX6_goes_132 rfl (lv_at hl 2 rfl) ?_
          refine lv_aload_n hx hb dX6_goes_133 rfl (lv_at hl 2 rfl) ?_
          refine xg_getr (C := RX6) (TC := TX6) (N := 34) hx hb hts iX6 hown hK hP xs60 rfl 14 (by decide) f_48 (fun _ h9 => h9) rfl dX6_goes_134 ?_
          refine lv_iload hx hb dX6_goes_137 (lv_at hl 8 rfl) ?_
          obtain ⟨hi19, hw⟩ := hw
          refine xg_iald hx hb hK hP xs74 hi19 dX6_goes_139 ?_
          refine lv_iload hx hb dX6_goes_140 (lv_at hl 6 rfl) ?_
          refine lv_iload hx hb dX6_goes_142 (lv_at hl 7 rfl) ?_
          refine xg_callv (va_runV (As := [.int ((h 74 v7.toNatClampNeg)), .int (p3), .int (p4)]) (rest := []) ⟨hx, hb, hml, hown, hts⟩ (c_X6_comesTo l hl9 hA (h 74 v7.toNatClampNeg) p3 p4 hw) (cwV 3 hts gX6_goes_X6_comesTo rfl rfl rfl (by decide +kernel) ⟨Nat.le_of_ble_eq_true rfl, Nat.le_of_ble_eq_true rfl⟩) (xg_preV hB0 hP hK hN hS xs60 rfl) rfl rfl hl.1 rfl (lv_room (Nat.le_of_ble_eq_true rfl)) dX6_goes_144 ⟨Nat.le_of_ble_eq_true rfl, Nat.le_of_ble_eq_true rfl⟩) hS (fun _ h21 H locs hw hP hS => ?_)
          exact j_147 _ (hR9) (x16) (v7) _ _ _ _ hw hP hS (lv_sub hl [2, 3, 4, 5, 6, 7, 0, 8] rfl)
        · have hw := hw.1 c18
          refine lv_aload_n hx hb dX6_goes_123 rfl (lv_at hl 2 rfl) ?_
          refine lv_iload hx hb dX6_goes_124 (lv_at hl 6 rfl) ?_
          refine xg_callv (va_runV (As := [.int (p3)]) (rest := []) ⟨hx, hb, hml, hown, hts⟩ (c_X6_forwards l hl9 hA p3 hw) (cwV 1 hts gX6_goes_X6_forwards rfl rfl rfl (by decide +kernel) ⟨Nat.le_of_ble_eq_true rfl, Nat.le_of_ble_eq_true rfl⟩) (xg_preV hB0 hP hK hN hS xs60 rfl) rfl rfl hl.1 rfl (lv_room (Nat.le_of_ble_eq_true rfl)) dX6_goes_126 ⟨Nat.le_of_ble_eq_true rfl, Nat.le_of_ble_eq_true rfl⟩) hS (fun _ h23 H locs hw hP hS => ?_)
          refine lv_goto (tgt := 147) hx hb dX6_goes_129 (by decide) ?_
          exact j_147 _ (hR9) (x16) (v7) _ _ _ _ hw hP hS (lv_sub hl [2, 3, 4, 5, 6, 7, 0, 8] rfl)
  have j_75 : ∀ (R9 : Int32 → Int32 → xH → Prop) (hR9 : ∀ (v6 : Int32) (v7 : Int32) (h : xH) (H : Heap) (locs : List Loc) (ls : Array Slot), R9 v6 v7 h → XP ad D T h H → va_S (fun q => B0 ≤ q) s.heap H locs → lv_has ls 9 [(0, .ref (ad (60))), (1, .int (p0)), (2, .int (p1)), (3, .int (p2)), (4, .int (p3)), (5, .int (p4)), (6, .int (v6)), (7, .int (v7))] → W p l e (headSpec wsX6_goes ({ frames := 2, cells := 0, slots := 0, locals := 46 } : Room)).room s m ([.ref (ad (60)), .int (p0), .int (p1), .int (p2), .int (p3), .int (p4)] : List Value).toArray below meth c H locs 0 0 (MQ below (XQ B0 ad D T xei K) ([.ref (ad (60)), .int (p0), .int (p1), .int (p2), .int (p3), .int (p4)] : List Value).toArray s 0 0 (fun q => B0 ≤ q)) (F0 m 6 ls [])) (v6 : Int32) (v7 : Int32) (h : xH) (H : Heap) (locs : List Loc) (ls : Array Slot), w_X6_goes_75 p0 p1 p2 p3 p4 K R9 v6 v7 h → XP ad D T h H → va_S (fun q => B0 ≤ q) s.heap H locs → lv_has ls 9 [(0, .ref (ad (60))), (1, .int (p0)), (2, .int (p1)), (3, .int (p2)), (4, .int (p3)), (5, .int (p4)), (6, .int (v6)), (7, .int (v7))] → W p l e (headSpec wsX6_goes ({ frames := 2, cells := 0, slots := 0, locals := 46 } : Room)).room s m ([.ref (ad (60)), .int (p0), .int (p1), .int (p2), .int (p3), .int (p4)] : List Value).toArray below meth c H locs 0 0 (MQ below (XQ B0 ad D T xei K) ([.ref (ad (60)), .int (p0), .int (p1), .int (p2), .int (p3), .int (p4)] : List Value).toArray s 0 0 (fun q => B0 ≤ q)) (F0 m 75 ls []) := by
    intro R9 hR9 v6 v7 h H locs ls hw hP hS hl 
    unfold w_X6_goes_75 at hw
    refine lv_iconst (v := 0) hx hb dX6_goes_75 (by decide) ?_
    exact j_76 _ (hR9) (v6) (v7) (0) _ _ _ _ hw hP hS (lv_sub hl [0, 1, 2, 3, 4, 5, 6, 7] rfl)
  have j_71 : ∀ (R9 : Int32 → Int32 → xH → Prop) (hR9 : ∀ (v6 : Int32) (v7 : Int32) (h : xH) (H : Heap) (locs : List Loc) (ls : Array Slot), R9 v6 v7 h → XP ad D T h H → va_S (fun q => B0 ≤ q) s.heap H locs → lv_has ls 9 [(0, .ref (ad (60))), (1, .int (p0)), (2, .int (p1)), (3, .int (p2)), (4, .int (p3)), (5, .int (p4)), (6, .int (v6)), (7, .int (v7))] → W p l e (headSpec wsX6_goes ({ frames := 2, cells := 0, slots := 0, locals := 46 } : Room)).room s m ([.ref (ad (60)), .int (p0), .int (p1), .int (p2), .int (p3), .int (p4)] : List Value).toArray below meth c H locs 0 0 (MQ below (XQ B0 ad D T xei K) ([.ref (ad (60)), .int (p0), .int (p1), .int (p2), .int (p3), .int (p4)] : List Value).toArray s 0 0 (fun q => B0 ≤ q)) (F0 m 6 ls [])) (v6 : Int32) (v7 : Int32) (h : xH) (H : Heap) (locs : List Loc) (ls : Array Slot), w_X6_goes_71 p0 p1 p2 p3 p4 K R9 v6 v7 h → XP ad D T h H → va_S (fun q => B0 ≤ q) s.heap H locs → lv_has ls 9 [(0, .ref (ad (60))), (1, .int (p0)), (2, .int (p1)), (3, .int (p2)), (4, .int (p3)), (5, .int (p4)), (6, .int (v6)), (7, .int (v7))] → W p l e (headSpec wsX6_goes ({ frames := 2, cells := 0, slots := 0, locals := 46 } : Room)).room s m ([.ref (ad (60)), .int (p0), .int (p1), .int (p2), .int (p3), .int (p4)] : List Value).toArray below meth c H locs 0 0 (MQ below (XQ B0 ad D T xei K) ([.ref (ad (60)), .int (p0), .int (p1), .int (p2), .int (p3), .int (p4)] : List Value).toArray s 0 0 (fun q => B0 ≤ q)) (F0 m 71 ls []) := by
    intro R9 hR9 v6 v7 h H locs ls hw hP hS hl 
    unfold w_X6_goes_71 at hw
    refine lv_iconst (v := 1) hx hb dX6_goes_71 (by decide) ?_
    refine lv_goto (tgt := 76) hx hb dX6_goes_72 (by decide) ?_
    exact j_76 _ (hR9) (v6) (v7) (1) _ _ _ _ hw hP hS (lv_sub hl [0, 1, 2, 3, 4, 5, 6, 7] rfl)
  have j_6 : ∀ (n : Nat) (v6 : Int32) (v7 : Int32) (h : xH) (H : Heap) (locs : List Loc) (ls : Array Slot), w_X6_goes_6 p0 p1 p2 p3 p4 K n v6 v7 h → XP ad D T h H → va_S (fun q => B0 ≤ q) s.heap H locs → lv_has ls 9 [(0, .ref (ad (60))), (1, .int (p0)), (2, .int (p1)), (3, .int (p2)), (4, .int (p3)), (5, .int (p4)), (6, .int (v6)), (7, .int (v7))] → W p l e (headSpec wsX6_goes ({ frames := 2, cells := 0, slots := 0, locals := 46 } : Room)).room s m ([.ref (ad (60)), .int (p0), .int (p1), .int (p2), .int (p3), .int (p4)] : List Value).toArray below meth c H locs 0 0 (MQ below (XQ B0 ad D T xei K) ([.ref (ad (60)), .int (p0), .int (p1), .int (p2), .int (p3), .int (p4)] : List Value).toArray s 0 0 (fun q => B0 ≤ q)) (F0 m 6 ls []) := by
    intro n
    induction n with
    | zero => intro v6 v7 h H locs ls hw; exact hw.elim
    | succ n9 ih =>
      intro v6 v7 h H locs ls hw hP hS hl 
      rw [w_X6_goes_6_s] at hw
      refine lv_iload hx hb dX6_goes_6 (lv_at hl 7 rfl) ?_
      refine lv_bipush (v := 6) hx hb dX6_goes_8 (by decide) ?_
      refine lv_icmp_ge (tgt := 153) hx hb dX6_goes_10 (by decide) (fun c1 => ?_) (fun c1 => ?_)
      · have hw := hw.1 c1
        refine lv_iload hx hb dX6_goes_153 (lv_at hl 6 rfl) ?_
        exact xg_irets hx hb hr rfl hlocks hB0 hP hK hN hS dX6_goes_155 (by decide) (by decide) hw
      · have hw := hw.2 c1
        refine lv_aload_n hx hb dX6_goes_13 rfl (lv_at hl 0 rfl) ?_
        refine xg_getr (C := RX6) (TC := TX6) (N := 34) hx hb hts iX6 hown hK hP xs60 rfl 10 (by decide) f_35 (fun _ h9 => h9) rfl dX6_goes_14 ?_
        refine lv_iload hx hb dX6_goes_17 (lv_at hl 7 rfl) ?_
        obtain ⟨hi2, hw⟩ := hw
        refine xg_zald hx hb hK hP xs70 hi2 dX6_goes_19 ?_
        refine lv_if_eq (tgt := 75) hx hb dX6_goes_20 (by decide) (fun c3 => ?_) (fun c3 => ?_)
        · have hw := hw.1 c3
          exact j_75 _ (ih) (v6) (v7) _ _ _ _ hw hP hS (lv_sub hl [0, 1, 2, 3, 4, 5, 6, 7] rfl)
        · have hw := hw.2 c3
          refine lv_aload_n hx hb dX6_goes_23 rfl (lv_at hl 0 rfl) ?_
          refine xg_getr (C := RX6) (TC := TX6) (N := 34) hx hb hts iX6 hown hK hP xs60 rfl 11 (by decide) f_39 (fun _ h9 => h9) rfl dX6_goes_24 ?_
          refine lv_iload hx hb dX6_goes_27 (lv_at hl 7 rfl) ?_
          obtain ⟨hi4, hw⟩ := hw
          refine xg_iald hx hb hK hP xs71 hi4 dX6_goes_29 ?_
          refine lv_iload_n hx hb dX6_goes_30 rfl (lv_at hl 2 rfl) ?_
          refine lv_ishr hx hb dX6_goes_31 ?_
          refine lv_iconst (v := 1) hx hb dX6_goes_32 (by decide) ?_
          refine lv_iand hx hb dX6_goes_33 ?_
          refine lv_iconst (v := 1) hx hb dX6_goes_34 (by decide) ?_
          refine lv_icmp_ne (tgt := 75) hx hb dX6_goes_35 (by decide) (fun c5 => ?_) (fun c5 => ?_)
          · have hw := hw.2 c5
            exact j_75 _ (ih) (v6) (v7) _ _ _ _ hw hP hS (lv_sub hl [0, 1, 2, 3, 4, 5, 6, 7] rfl)
          · have hw := hw.1 c5
            refine lv_iload_n hx hb dX6_goes_38 rfl (lv_at hl 3 rfl) ?_
            refine lv_aload_n hx hb dX6_goes_39 rfl (lv_at hl 0 rfl) ?_
            refine xg_getr (C := RX6) (TC := TX6) (N := 34) hx hb hts iX6 hown hK hP xs60 rfl 12 (by decide) f_42 (fun _ h9 => h9) rfl dX6_goes_40 ?_
            refine lv_iload hx hb dX6_goes_43 (lv_at hl 7 rfl) ?_
            obtain ⟨hi6, hw⟩ := hw
            refine xg_iald hx hb hK hP xs72 hi6 dX6_goes_45 ?_
            refine lv_icmp_gt (tgt := 75) hx hb dX6_goes_46 (by decide) (fun c7 => ?_) (fun c7 => ?_)
            · have hw := hw.1 c7
              exact j_75 _ (ih) (v6) (v7) _ _ _ _ hw hP hS (lv_sub hl [0, 1, 2, 3, 4, 5, 6, 7] rfl)
            · have hw := hw.2 c7
              refine lv_aload_n hx hb dX6_goes_49 rfl (lv_at hl 0 rfl) ?_
              refine xg_getr (C := RX6) (TC := TX6) (N := 34) hx hb hts iX6 hown hK hP xs60 rfl 13 (by decide) f_45 (fun _ h9 => h9) rfl dX6_goes_50 ?_
              refine lv_iload hx hb dX6_goes_53 (lv_at hl 7 rfl) ?_
              obtain ⟨hi8, hw⟩ := hw
              refine xg_iald hx hb hK hP xs73 hi8 dX6_goes_55 ?_
              refine lv_iconst (v := (-1)) hx hb dX6_goes_56 (by decide) ?_
              refine lv_icmp_eq (tgt := 71) hx hb dX6_goes_57 (by decide) (fun c9 => ?_) (fun c9 => ?_)
              · have hw := hw.1 c9
                exact j_71 _ (ih) (v6) (v7) _ _ _ _ hw hP hS (lv_sub hl [0, 1, 2, 3, 4, 5, 6, 7] rfl)
              · have hw := hw.2 c9
                refine lv_aload_n hx hb dX6_goes_60 rfl (lv_at hl 0 rfl) ?_
                refine xg_getr (C := RX6) (TC := TX6) (N := 34) hx hb hts iX6 hown hK hP xs60 rfl 13 (by decide) f_45 (fun _ h9 => h9) rfl dX6_goes_61 ?_
                refine lv_iload hx hb dX6_goes_64 (lv_at hl 7 rfl) ?_
                obtain ⟨hi10, hw⟩ := hw
                refine xg_iald hx hb hK hP xs73 hi10 dX6_goes_66 ?_
                refine lv_iload_n hx hb dX6_goes_67 rfl (lv_at hl 1 rfl) ?_
                refine lv_icmp_ne (tgt := 75) hx hb dX6_goes_68 (by decide) (fun c11 => ?_) (fun c11 => ?_)
                · have hw := hw.2 c11
                  exact j_75 _ (ih) (v6) (v7) _ _ _ _ hw hP hS (lv_sub hl [0, 1, 2, 3, 4, 5, 6, 7] rfl)
                · have hw := hw.1 c11
                  exact j_71 _ (ih) (v6) (v7) _ _ _ _ hw hP hS (lv_sub hl [0, 1, 2, 3, 4, 5, 6, 7] rfl)
  unfold w_X6_goes at hw
  refine lv_iconst (v := 0) hx hb dX6_goes_0 (by decide) ?_
  refine lv_istore (lv' := [(6, .int (0)), (0, .ref (ad (60))), (1, .int (p0)), (2, .int (p1)), (3, .int (p2)), (4, .int (p3)), (5, .int (p4))]) hx hb dX6_goes_1 hl (by decide) rfl (fun ls hl => ?_)
  refine lv_iconst (v := 0) hx hb dX6_goes_3 (by decide) ?_
  refine lv_istore (lv' := [(7, .int (0)), (6, .int (0)), (0, .ref (ad (60))), (1, .int (p0)), (2, .int (p1)), (3, .int (p2)), (4, .int (p3)), (5, .int (p4))]) hx hb dX6_goes_4 hl (by decide) rfl (fun ls hl => ?_)
  obtain ⟨n9, hw⟩ := hw
  exact j_6 n9 (0) (0) _ _ _ _ hw hP hS (lv_sub hl [2, 3, 4, 5, 6, 7, 1, 0] rfl)
set_option maxHeartbeats 4000000 in
set_option maxRecDepth 100000 in
theorem c_X6_tellsRepeats (l : Launch) (hl9 : l.stackTraces = false) {B0 : Nat} {ad : Nat → Nat} {D : va_G} {T : Nat → ClassId} (hA : XA B0 ad) (p0 : Int32) {h : xH} {K : Unit → xH → Prop} (hw : w_X6_tellsRepeats p0 h K) : XM l yX6_tellsRepeats wsX6_tellsRepeats ({ frames := 3, cells := 0, slots := 0, locals := 74 } : Room) B0 ad D T h [.ref (ad (60)), .int (p0)] xev K 0 0 := by
  unfold XM
  refine Met.ofW (cc := cX6_tellsRepeats) (maxL := 4) (ret := none) (by decide) rfl ?_
  intro p e s m args below meth c s₁ B hml hv
  obtain ⟨rfl, hB0, hP, hK, hN⟩ := hv
  have hx := B.exec
  have hb := B.bytes
  have hr := B.returns
  have hts := atoms_spec (ws := wsX6_tellsRepeats) B.pre
  have hown : s.vm.findClass RX6 = some m.cls := findClass_of_methodNamed B.named
  have hlocks := B.notSynchronized
  have iX6 : ∀ w ∈ u_ws RX6 TX6 34, w ∈ wsX6_tellsRepeats := by decide +kernel
  have f_23 := hts (.fieldLink RX6 23 "LogSpoolerModel" "repeats" "[I") (by decide +kernel)
  have f_32 := hts (.fieldLink RX6 32 "LogSpoolerModel" "lasts" "[I") (by decide +kernel)
  have hS : va_S (fun q => B0 ≤ q) s.heap s.heap [] := va_S.rf
  have hl := lv_entry ([.ref (ad (60)), .int (p0)]) (n := 4) (Nat.le_of_ble_eq_true rfl)
  rw [lg_entry_eq]
  generalize (lg_sl ([.ref (ad (60)), .int (p0)]) ++ List.replicate (4 - (lg_sl ([.ref (ad (60)), .int (p0)])).length) Slot.unset).toArray = ls at hl ⊢
  have hl : lv_has ls 4 [(0, .ref (ad (60))), (1, .int (p0))] := hl
  unfold w_X6_tellsRepeats at hw
  refine lv_aload_n hx hb dX6_tellsRepeats_0 rfl (lv_at hl 0 rfl) ?_
  refine xg_getr (C := RX6) (TC := TX6) (N := 34) hx hb hts iX6 hown hK hP xs60 rfl 6 (by decide) f_23 (fun _ h9 => h9) rfl dX6_tellsRepeats_1 ?_
  refine lv_iload_n hx hb dX6_tellsRepeats_4 rfl (lv_at hl 1 rfl) ?_
  obtain ⟨hi1, hw⟩ := hw
  refine xg_iald hx hb hK hP xs66 hi1 dX6_tellsRepeats_5 ?_
  refine lv_topi (fun x2 ex2 => ?_)
  have hw := hw x2 ex2
  refine lv_istore_n (lv' := [(2, .int (x2)), (0, .ref (ad (60))), (1, .int (p0))]) hx hb dX6_tellsRepeats_6 rfl hl (by decide) rfl (fun ls hl => ?_)
  refine lv_aload_n hx hb dX6_tellsRepeats_7 rfl (lv_at hl 1 rfl) ?_
  refine xg_getr (C := RX6) (TC := TX6) (N := 34) hx hb hts iX6 hown hK hP xs60 rfl 6 (by decide) f_23 (fun _ h9 => h9) rfl dX6_tellsRepeats_8 ?_
  refine lv_iload_n hx hb dX6_tellsRepeats_11 rfl (lv_at hl 2 rfl) ?_
  refine lv_iconst (v := 0) hx hb dX6_tellsRepeats_12 (by decide) ?_
  obtain ⟨hi3, hw⟩ := hw
  refine xg_iast hx hb hK hP hA hS xs66 hi3 dX6_tellsRepeats_13 (fun H locs h4 eh4 hP hS => ?_)
  have hw := hw h4 eh4
  refine lv_aload_n hx hb dX6_tellsRepeats_14 rfl (lv_at hl 1 rfl) ?_
  refine lv_iload_n hx hb dX6_tellsRepeats_15 rfl (lv_at hl 2 rfl) ?_
  refine lv_aload_n hx hb dX6_tellsRepeats_16 rfl (lv_at hl 1 rfl) ?_
  refine xg_getr (C := RX6) (TC := TX6) (N := 34) hx hb hts iX6 hown hK hP xs60 rfl 9 (by decide) f_32 (fun _ h9 => h9) rfl dX6_tellsRepeats_17 ?_
  refine lv_iload_n hx hb dX6_tellsRepeats_20 rfl (lv_at hl 2 rfl) ?_
  obtain ⟨hi5, hw⟩ := hw
  refine xg_iald hx hb hK hP xs69 hi5 dX6_tellsRepeats_21 ?_
  refine lv_ldc (v := 160000) hx hb hown (hts (.constant RX6 131 160000) (by decide +kernel)) dX6_tellsRepeats_22 ?_
  refine lv_idiv hx hb dX6_tellsRepeats_24 (by decide) ?_
  refine lv_aload_n hx hb dX6_tellsRepeats_25 rfl (lv_at hl 1 rfl) ?_
  refine xg_getr (C := RX6) (TC := TX6) (N := 34) hx hb hts iX6 hown hK hP xs60 rfl 9 (by decide) f_32 (fun _ h9 => h9) rfl dX6_tellsRepeats_26 ?_
  refine lv_iload_n hx hb dX6_tellsRepeats_29 rfl (lv_at hl 2 rfl) ?_
  obtain ⟨hi6, hw⟩ := hw
  refine xg_iald hx hb hK hP xs69 hi6 dX6_tellsRepeats_30 ?_
  refine lv_sipush (v := 20000) hx hb dX6_tellsRepeats_31 (by decide) ?_
  refine lv_idiv hx hb dX6_tellsRepeats_34 (by decide) ?_
  refine lv_bipush (v := 8) hx hb dX6_tellsRepeats_35 (by decide) ?_
  refine lv_irem hx hb dX6_tellsRepeats_37 (by decide) ?_
  refine lv_sipush (v := 10000) hx hb dX6_tellsRepeats_38 (by decide) ?_
  refine lv_iload_n hx hb dX6_tellsRepeats_41 rfl (lv_at hl 2 rfl) ?_
  refine lv_iconst (v := 1) hx hb dX6_tellsRepeats_42 (by decide) ?_
  refine lv_iadd hx hb dX6_tellsRepeats_43 ?_
  refine lv_imul hx hb dX6_tellsRepeats_44 ?_
  refine lv_iload_n hx hb dX6_tellsRepeats_45 rfl (lv_at hl 0 rfl) ?_
  refine lv_iadd hx hb dX6_tellsRepeats_46 ?_
  refine lv_bipush (v := 15) hx hb dX6_tellsRepeats_47 (by decide) ?_
  refine xg_calli (va_runV (As := [.int (p0), .int (((h4 69 p0.toNatClampNeg) / 160000)), .int ((((h4 69 p0.toNatClampNeg) / 20000) - ((h4 69 p0.toNatClampNeg) / 20000) / 8 * 8)), .int ((((10000 : Int32) * (p0 + 1)) + x2)), .int (15)]) (rest := []) ⟨hx, hb, hml, hown, hts⟩ (c_X6_goes l hl9 hA p0 ((h4 69 p0.toNatClampNeg) / 160000) (((h4 69 p0.toNatClampNeg) / 20000) - ((h4 69 p0.toNatClampNeg) / 20000) / 8 * 8) (((10000 : Int32) * (p0 + 1)) + x2) (15 : Int32) hw) (cwV 5 hts gX6_tellsRepeats_X6_goes rfl rfl rfl (by decide +kernel) ⟨Nat.le_of_ble_eq_true rfl, Nat.le_of_ble_eq_true rfl⟩) (xg_preV hB0 hP hK hN hS xs60 rfl) rfl rfl hl.1 rfl (lv_room (Nat.le_of_ble_eq_true rfl)) dX6_tellsRepeats_49 ⟨Nat.le_of_ble_eq_true rfl, Nat.le_of_ble_eq_true rfl⟩) hS (fun r7 h8 H locs hw hP hS => ?_)
  refine lv_istore_n (lv' := [(3, .int (r7)), (2, .int (x2)), (0, .ref (ad (60))), (1, .int (p0))]) hx hb dX6_tellsRepeats_52 rfl hl (by decide) rfl (fun ls hl => ?_)
  exact xg_vrets hx hb hr hlocks hB0 hP hK hN hS dX6_tellsRepeats_53 (by decide) (by decide) hw
set_option maxHeartbeats 4000000 in
set_option maxRecDepth 100000 in
theorem c_X6_tellsDrops (l : Launch) (hl9 : l.stackTraces = false) {B0 : Nat} {ad : Nat → Nat} {D : va_G} {T : Nat → ClassId} (hA : XA B0 ad) (p0 : Int32) {h : xH} {K : Unit → xH → Prop} (hw : w_X6_tellsDrops p0 h K) : XM l yX6_tellsDrops wsX6_tellsDrops ({ frames := 3, cells := 0, slots := 0, locals := 74 } : Room) B0 ad D T h [.ref (ad (60)), .int (p0)] xev K 0 0 := by
  unfold XM
  refine Met.ofW (cc := cX6_tellsDrops) (maxL := 4) (ret := none) (by decide) rfl ?_
  intro p e s m args below meth c s₁ B hml hv
  obtain ⟨rfl, hB0, hP, hK, hN⟩ := hv
  have hx := B.exec
  have hb := B.bytes
  have hr := B.returns
  have hts := atoms_spec (ws := wsX6_tellsDrops) B.pre
  have hown : s.vm.findClass RX6 = some m.cls := findClass_of_methodNamed B.named
  have hlocks := B.notSynchronized
  have iX6 : ∀ w ∈ u_ws RX6 TX6 34, w ∈ wsX6_tellsDrops := by decide +kernel
  have f_29 := hts (.fieldLink RX6 29 "LogSpoolerModel" "drops" "[I") (by decide +kernel)
  have hS : va_S (fun q => B0 ≤ q) s.heap s.heap [] := va_S.rf
  have hl := lv_entry ([.ref (ad (60)), .int (p0)]) (n := 4) (Nat.le_of_ble_eq_true rfl)
  rw [lg_entry_eq]
  generalize (lg_sl ([.ref (ad (60)), .int (p0)]) ++ List.replicate (4 - (lg_sl ([.ref (ad (60)), .int (p0)])).length) Slot.unset).toArray = ls at hl ⊢
  have hl : lv_has ls 4 [(0, .ref (ad (60))), (1, .int (p0))] := hl
  unfold w_X6_tellsDrops at hw
  refine lv_aload_n hx hb dX6_tellsDrops_0 rfl (lv_at hl 0 rfl) ?_
  refine xg_getr (C := RX6) (TC := TX6) (N := 34) hx hb hts iX6 hown hK hP xs60 rfl 8 (by decide) f_29 (fun _ h9 => h9) rfl dX6_tellsDrops_1 ?_
  refine lv_iload_n hx hb dX6_tellsDrops_4 rfl (lv_at hl 1 rfl) ?_
  obtain ⟨hi1, hw⟩ := hw
  refine xg_iald hx hb hK hP xs68 hi1 dX6_tellsDrops_5 ?_
  refine lv_topi (fun x2 ex2 => ?_)
  have hw := hw x2 ex2
  refine lv_istore_n (lv' := [(2, .int (x2)), (0, .ref (ad (60))), (1, .int (p0))]) hx hb dX6_tellsDrops_6 rfl hl (by decide) rfl (fun ls hl => ?_)
  refine lv_aload_n hx hb dX6_tellsDrops_7 rfl (lv_at hl 1 rfl) ?_
  refine xg_getr (C := RX6) (TC := TX6) (N := 34) hx hb hts iX6 hown hK hP xs60 rfl 8 (by decide) f_29 (fun _ h9 => h9) rfl dX6_tellsDrops_8 ?_
  refine lv_iload_n hx hb dX6_tellsDrops_11 rfl (lv_at hl 2 rfl) ?_
  refine lv_iconst (v := 0) hx hb dX6_tellsDrops_12 (by decide) ?_
  obtain ⟨hi3, hw⟩ := hw
  refine xg_iast hx hb hK hP hA hS xs68 hi3 dX6_tellsDrops_13 (fun H locs h4 eh4 hP hS => ?_)
  have hw := hw h4 eh4
  refine lv_aload_n hx hb dX6_tellsDrops_14 rfl (lv_at hl 1 rfl) ?_
  refine lv_iload_n hx hb dX6_tellsDrops_15 rfl (lv_at hl 2 rfl) ?_
  refine lv_iconst (v := 5) hx hb dX6_tellsDrops_16 (by decide) ?_
  refine lv_iconst (v := 4) hx hb dX6_tellsDrops_17 (by decide) ?_
  refine lv_ldc (v := 100000) hx hb hown (hts (.constant RX6 136 100000) (by decide +kernel)) dX6_tellsDrops_18 ?_
  refine lv_iload_n hx hb dX6_tellsDrops_20 rfl (lv_at hl 2 rfl) ?_
  refine lv_iconst (v := 1) hx hb dX6_tellsDrops_21 (by decide) ?_
  refine lv_iadd hx hb dX6_tellsDrops_22 ?_
  refine lv_imul hx hb dX6_tellsDrops_23 ?_
  refine lv_iload_n hx hb dX6_tellsDrops_24 rfl (lv_at hl 0 rfl) ?_
  refine lv_iadd hx hb dX6_tellsDrops_25 ?_
  refine lv_bipush (v := 20) hx hb dX6_tellsDrops_26 (by decide) ?_
  refine xg_calli (va_runV (As := [.int (p0), .int (5), .int (4), .int ((((100000 : Int32) * (p0 + 1)) + x2)), .int (20)]) (rest := []) ⟨hx, hb, hml, hown, hts⟩ (c_X6_goes l hl9 hA p0 (5 : Int32) (4 : Int32) (((100000 : Int32) * (p0 + 1)) + x2) (20 : Int32) hw) (cwV 5 hts gX6_tellsDrops_X6_goes rfl rfl rfl (by decide +kernel) ⟨Nat.le_of_ble_eq_true rfl, Nat.le_of_ble_eq_true rfl⟩) (xg_preV hB0 hP hK hN hS xs60 rfl) rfl rfl hl.1 rfl (lv_room (Nat.le_of_ble_eq_true rfl)) dX6_tellsDrops_28 ⟨Nat.le_of_ble_eq_true rfl, Nat.le_of_ble_eq_true rfl⟩) hS (fun r5 h6 H locs hw hP hS => ?_)
  refine lv_istore_n (lv' := [(3, .int (r5)), (2, .int (x2)), (0, .ref (ad (60))), (1, .int (p0))]) hx hb dX6_tellsDrops_31 rfl hl (by decide) rfl (fun ls hl => ?_)
  exact xg_vrets hx hb hr hlocks hB0 hP hK hN hS dX6_tellsDrops_32 (by decide) (by decide) hw
set_option maxHeartbeats 4000000 in
set_option maxRecDepth 100000 in
theorem c_X6_notes (l : Launch) (hl9 : l.stackTraces = false) {B0 : Nat} {ad : Nat → Nat} {D : va_G} {T : Nat → ClassId} (hA : XA B0 ad) (p0 : Int32) (p1 : Int32) {h : xH} {K : Int32 → xH → Prop} (hw : w_X6_notes p0 p1 h K) : XM l yX6_notes wsX6_notes ({ frames := 0, cells := 0, slots := 0, locals := 0 } : Room) B0 ad D T h [.ref (ad (60)), .int (p0), .int (p1)] xei K 0 0 := by
  unfold XM
  refine Met.ofW (cc := cX6_notes) (maxL := 3) (ret := (some .int)) (by decide) rfl ?_
  intro p e s m args below meth c s₁ B hml hv
  obtain ⟨rfl, hB0, hP, hK, hN⟩ := hv
  have hx := B.exec
  have hb := B.bytes
  have hr := B.returns
  have hts := atoms_spec (ws := wsX6_notes) B.pre
  have hown : s.vm.findClass RX6 = some m.cls := findClass_of_methodNamed B.named
  have hlocks := B.notSynchronized
  have iX6 : ∀ w ∈ u_ws RX6 TX6 34, w ∈ wsX6_notes := by decide +kernel
  have f_81 := hts (.fieldLink RX6 81 "LogSpoolerModel" "fates" "[I") (by decide +kernel)
  have f_84 := hts (.fieldLink RX6 84 "LogSpoolerModel" "wentTo" "[I") (by decide +kernel)
  have f_137 := hts (.fieldLink RX6 137 "LogSpoolerModel" "messages" "I") (by decide +kernel)
  have hS : va_S (fun q => B0 ≤ q) s.heap s.heap [] := va_S.rf
  have hl := lv_entry ([.ref (ad (60)), .int (p0), .int (p1)]) (n := 3) (Nat.le_of_ble_eq_true rfl)
  rw [lg_entry_eq]
  generalize (lg_sl ([.ref (ad (60)), .int (p0), .int (p1)]) ++ List.replicate (3 - (lg_sl ([.ref (ad (60)), .int (p0), .int (p1)])).length) Slot.unset).toArray = ls at hl ⊢
  have hl : lv_has ls 3 [(0, .ref (ad (60))), (1, .int (p0)), (2, .int (p1))] := hl
  unfold w_X6_notes at hw
  refine lv_aload_n hx hb dX6_notes_0 rfl (lv_at hl 0 rfl) ?_
  refine xg_getr (C := RX6) (TC := TX6) (N := 34) hx hb hts iX6 hown hK hP xs60 rfl 32 (by decide) f_81 (fun _ h9 => h9) rfl dX6_notes_1 ?_
  refine lv_aload_n hx hb dX6_notes_4 rfl (lv_at hl 0 rfl) ?_
  refine xg_get (C := RX6) (TC := TX6) (N := 34) hx hb hts iX6 hown hK hP xs60 rfl 31 (by decide) f_137 (fun _ h9 => h9) rfl dX6_notes_5 ?_
  refine lv_iload_n hx hb dX6_notes_8 rfl (lv_at hl 1 rfl) ?_
  obtain ⟨hi1, hw⟩ := hw
  refine xg_iast hx hb hK hP hA hS xs92 hi1 dX6_notes_9 (fun H locs h2 eh2 hP hS => ?_)
  have hw := hw h2 eh2
  refine lv_aload_n hx hb dX6_notes_10 rfl (lv_at hl 0 rfl) ?_
  refine xg_getr (C := RX6) (TC := TX6) (N := 34) hx hb hts iX6 hown hK hP xs60 rfl 33 (by decide) f_84 (fun _ h9 => h9) rfl dX6_notes_11 ?_
  refine lv_aload_n hx hb dX6_notes_14 rfl (lv_at hl 0 rfl) ?_
  refine xg_get (C := RX6) (TC := TX6) (N := 34) hx hb hts iX6 hown hK hP xs60 rfl 31 (by decide) f_137 (fun _ h9 => h9) rfl dX6_notes_15 ?_
  refine lv_iload_n hx hb dX6_notes_18 rfl (lv_at hl 2 rfl) ?_
  obtain ⟨hi3, hw⟩ := hw
  refine xg_iast hx hb hK hP hA hS xs93 hi3 dX6_notes_19 (fun H locs h4 eh4 hP hS => ?_)
  have hw := hw h4 eh4
  refine lv_aload_n hx hb dX6_notes_20 rfl (lv_at hl 0 rfl) ?_
  refine lv_dup hx hb dX6_notes_21 rfl ?_
  refine xg_get (C := RX6) (TC := TX6) (N := 34) hx hb hts iX6 hown hK hP xs60 rfl 31 (by decide) f_137 (fun _ h9 => h9) rfl dX6_notes_22 ?_
  refine lv_iconst (v := 1) hx hb dX6_notes_25 (by decide) ?_
  refine lv_iadd hx hb dX6_notes_26 ?_
  refine xg_put (C := RX6) (TC := TX6) (N := 34) hx hb hts iX6 tyX6 tyX6_ok nmX6 hown hK hP hA hS xs60 rfl 31 (by decide) f_137 (fun _ h9 => h9) rfl rfl (ty := .int) (by decide +kernel) rfl rfl dX6_notes_27 (fun H locs h5 eh5 hP hS => ?_)
  have hw := hw h5 eh5
  refine lv_iload_n hx hb dX6_notes_30 rfl (lv_at hl 1 rfl) ?_
  exact xg_irets hx hb hr rfl hlocks hB0 hP hK hN hS dX6_notes_31 (by decide) (by decide) hw
set_option maxHeartbeats 4000000 in
set_option maxRecDepth 100000 in
theorem c_X6_message (l : Launch) (hl9 : l.stackTraces = false) {B0 : Nat} {ad : Nat → Nat} {D : va_G} {T : Nat → ClassId} (hA : XA B0 ad) (p0 : Int32) (p1 : Int32) (p2 : Int32) (p3 : Int32) (p4 : Int32) {h : xH} {K : Int32 → xH → Prop} (hw : w_X6_message p0 p1 p2 p3 p4 h K) : XM l yX6_message wsX6_message ({ frames := 4, cells := 0, slots := 0, locals := 97 } : Room) B0 ad D T h [.ref (ad (60)), .int (p0), .int (p1), .int (p2), .int (p3), .int (p4)] xei K 0 0 := by
  unfold XM
  refine Met.ofW (cc := cX6_message) (maxL := 10) (ret := (some .int)) (by decide) rfl ?_
  intro p e s m args below meth c s₁ B hml hv
  obtain ⟨rfl, hB0, hP, hK, hN⟩ := hv
  have hx := B.exec
  have hb := B.bytes
  have hr := B.returns
  have hts := atoms_spec (ws := wsX6_message) B.pre
  have hown : s.vm.findClass RX6 = some m.cls := findClass_of_methodNamed B.named
  have hlocks := B.notSynchronized
  have iX6 : ∀ w ∈ u_ws RX6 TX6 34, w ∈ wsX6_message := by decide +kernel
  have f_16 := hts (.fieldLink RX6 16 "LogSpoolerModel" "fold" "I") (by decide +kernel)
  have f_19 := hts (.fieldLink RX6 19 "LogSpoolerModel" "tokens" "[I") (by decide +kernel)
  have f_23 := hts (.fieldLink RX6 23 "LogSpoolerModel" "repeats" "[I") (by decide +kernel)
  have f_26 := hts (.fieldLink RX6 26 "LogSpoolerModel" "firstRepeats" "[I") (by decide +kernel)
  have f_29 := hts (.fieldLink RX6 29 "LogSpoolerModel" "drops" "[I") (by decide +kernel)
  have f_32 := hts (.fieldLink RX6 32 "LogSpoolerModel" "lasts" "[I") (by decide +kernel)
  have f_112 := hts (.fieldLink RX6 112 "LogSpoolerModel" "time" "I") (by decide +kernel)
  have f_137 := hts (.fieldLink RX6 137 "LogSpoolerModel" "messages" "I") (by decide +kernel)
  have hS : va_S (fun q => B0 ≤ q) s.heap s.heap [] := va_S.rf
  have hl := lv_entry ([.ref (ad (60)), .int (p0), .int (p1), .int (p2), .int (p3), .int (p4)]) (n := 10) (Nat.le_of_ble_eq_true rfl)
  rw [lg_entry_eq]
  generalize (lg_sl ([.ref (ad (60)), .int (p0), .int (p1), .int (p2), .int (p3), .int (p4)]) ++ List.replicate (10 - (lg_sl ([.ref (ad (60)), .int (p0), .int (p1), .int (p2), .int (p3), .int (p4)])).length) Slot.unset).toArray = ls at hl ⊢
  have hl : lv_has ls 10 [(0, .ref (ad (60))), (1, .int (p0)), (2, .int (p1)), (3, .int (p2)), (4, .int (p3)), (5, .int (p4))] := hl
  have j_285 : ∀ (v9 : Int32) (s0 : Nat) (s1 : Int32) (h : xH) (H : Heap) (locs : List Loc) (ls : Array Slot), w_X6_message_285 p0 p1 p2 p3 p4 K v9 s0 s1 h → XP ad D T h H → va_S (fun q => B0 ≤ q) s.heap H locs → lv_has ls 10 [(9, .int (v9))] → W p l e (headSpec wsX6_message ({ frames := 4, cells := 0, slots := 0, locals := 97 } : Room)).room s m ([.ref (ad (60)), .int (p0), .int (p1), .int (p2), .int (p3), .int (p4)] : List Value).toArray below meth c H locs 0 0 (MQ below (XQ B0 ad D T xei K) ([.ref (ad (60)), .int (p0), .int (p1), .int (p2), .int (p3), .int (p4)] : List Value).toArray s 0 0 (fun q => B0 ≤ q)) (F0 m 285 ls [.int (s1), .ref (ad (60))]) := by
    intro v9 s0 s1 h H locs ls hw hP hS hl 
    unfold w_X6_message_285 at hw
    refine lv_iload hx hb dX6_message_285 (lv_at hl 0 rfl) ?_
    refine xg_calli (va_runV (As := [.int (s1), .int (v9)]) (rest := []) ⟨hx, hb, hml, hown, hts⟩ (c_X6_notes l hl9 hA s1 v9 hw) (cwV 2 hts gX6_message_X6_notes rfl rfl rfl (by decide +kernel) ⟨Nat.le_of_ble_eq_true rfl, Nat.le_of_ble_eq_true rfl⟩) (xg_preV hB0 hP hK hN hS xs60 rfl) rfl rfl hl.1 rfl (lv_room (Nat.le_of_ble_eq_true rfl)) dX6_message_287 ⟨Nat.le_of_ble_eq_true rfl, Nat.le_of_ble_eq_true rfl⟩) hS (fun r51 h52 H locs hw hP hS => ?_)
    exact xg_irets hx hb hr rfl hlocks hB0 hP hK hN hS dX6_message_290 (by decide) (by decide) hw
  have j_251 : ∀ (v8 : Int32) (h : xH) (H : Heap) (locs : List Loc) (ls : Array Slot), w_X6_message_251 p0 p1 p2 p3 p4 K v8 h → XP ad D T h H → va_S (fun q => B0 ≤ q) s.heap H locs → lv_has ls 10 [(0, .ref (ad (60))), (1, .int (p0)), (2, .int (p1)), (3, .int (p2)), (5, .int (p4)), (8, .int (v8))] → W p l e (headSpec wsX6_message ({ frames := 4, cells := 0, slots := 0, locals := 97 } : Room)).room s m ([.ref (ad (60)), .int (p0), .int (p1), .int (p2), .int (p3), .int (p4)] : List Value).toArray below meth c H locs 0 0 (MQ below (XQ B0 ad D T xei K) ([.ref (ad (60)), .int (p0), .int (p1), .int (p2), .int (p3), .int (p4)] : List Value).toArray s 0 0 (fun q => B0 ≤ q)) (F0 m 251 ls []) := by
    intro v8 h H locs ls hw hP hS hl 
    unfold w_X6_message_251 at hw
    refine lv_aload_n hx hb dX6_message_251 rfl (lv_at hl 0 rfl) ?_
    refine xg_getr (C := RX6) (TC := TX6) (N := 34) hx hb hts iX6 hown hK hP xs60 rfl 9 (by decide) f_32 (fun _ h9 => h9) rfl dX6_message_252 ?_
    refine lv_iload_n hx hb dX6_message_255 rfl (lv_at hl 1 rfl) ?_
    refine lv_iload hx hb dX6_message_256 (lv_at hl 5 rfl) ?_
    obtain ⟨hi46, hw⟩ := hw
    refine xg_iast hx hb hK hP hA hS xs69 hi46 dX6_message_258 (fun H locs h47 eh47 hP hS => ?_)
    have hw := hw h47 eh47
    refine lv_aload_n hx hb dX6_message_259 rfl (lv_at hl 0 rfl) ?_
    refine lv_iload_n hx hb dX6_message_260 rfl (lv_at hl 1 rfl) ?_
    refine lv_iload_n hx hb dX6_message_261 rfl (lv_at hl 2 rfl) ?_
    refine lv_iload_n hx hb dX6_message_262 rfl (lv_at hl 3 rfl) ?_
    refine lv_aload_n hx hb dX6_message_263 rfl (lv_at hl 0 rfl) ?_
    refine xg_get (C := RX6) (TC := TX6) (N := 34) hx hb hts iX6 hown hK hP xs60 rfl 31 (by decide) f_137 (fun _ h9 => h9) rfl dX6_message_264 ?_
    refine lv_iload hx hb dX6_message_267 (lv_at hl 4 rfl) ?_
    refine xg_calli (va_runV (As := [.int (p0), .int (p1), .int (p2), .int ((h47 60 31)), .int (p4)]) (rest := []) ⟨hx, hb, hml, hown, hts⟩ (c_X6_goes l hl9 hA p0 p1 p2 (h47 60 31) p4 hw) (cwV 5 hts gX6_message_X6_goes rfl rfl rfl (by decide +kernel) ⟨Nat.le_of_ble_eq_true rfl, Nat.le_of_ble_eq_true rfl⟩) (xg_preV hB0 hP hK hN hS xs60 rfl) rfl rfl hl.1 rfl (lv_room (Nat.le_of_ble_eq_true rfl)) dX6_message_269 ⟨Nat.le_of_ble_eq_true rfl, Nat.le_of_ble_eq_true rfl⟩) hS (fun r48 h49 H locs hw hP hS => ?_)
    refine lv_istore (lv' := [(9, .int (r48)), (0, .ref (ad (60))), (1, .int (p0)), (2, .int (p1)), (3, .int (p2)), (5, .int (p4)), (8, .int (v8))]) hx hb dX6_message_272 hl (by decide) rfl (fun ls hl => ?_)
    refine lv_aload_n hx hb dX6_message_274 rfl (lv_at hl 1 rfl) ?_
    refine lv_iload hx hb dX6_message_275 (lv_at hl 0 rfl) ?_
    refine lv_if_ne (tgt := 284) hx hb dX6_message_277 (by decide) (fun c50 => ?_) (fun c50 => ?_)
    · have hw := hw.2 c50
      refine lv_iconst (v := 3) hx hb dX6_message_284 (by decide) ?_
      exact j_285 (r48) (60) (3) _ _ _ _ hw hP hS (lv_sub hl [0] rfl)
    · have hw := hw.1 c50
      refine lv_iconst (v := 2) hx hb dX6_message_280 (by decide) ?_
      refine lv_goto (tgt := 285) hx hb dX6_message_281 (by decide) ?_
      exact j_285 (r48) (60) (2) _ _ _ _ hw hP hS (lv_sub hl [0] rfl)
  have j_201 : ∀ (v8 : Int32) (h : xH) (H : Heap) (locs : List Loc) (ls : Array Slot), w_X6_message_201 p0 p1 p2 p3 p4 K v8 h → XP ad D T h H → va_S (fun q => B0 ≤ q) s.heap H locs → lv_has ls 10 [(0, .ref (ad (60))), (1, .int (p0)), (2, .int (p1)), (3, .int (p2)), (5, .int (p4)), (8, .int (v8))] → W p l e (headSpec wsX6_message ({ frames := 4, cells := 0, slots := 0, locals := 97 } : Room)).room s m ([.ref (ad (60)), .int (p0), .int (p1), .int (p2), .int (p3), .int (p4)] : List Value).toArray below meth c H locs 0 0 (MQ below (XQ B0 ad D T xei K) ([.ref (ad (60)), .int (p0), .int (p1), .int (p2), .int (p3), .int (p4)] : List Value).toArray s 0 0 (fun q => B0 ≤ q)) (F0 m 201 ls []) := by
    intro v8 h H locs ls hw hP hS hl 
    unfold w_X6_message_201 at hw
    refine lv_aload_n hx hb dX6_message_201 rfl (lv_at hl 0 rfl) ?_
    refine xg_getr (C := RX6) (TC := TX6) (N := 34) hx hb hts iX6 hown hK hP xs60 rfl 5 (by decide) f_19 (fun _ h9 => h9) rfl dX6_message_202 ?_
    refine lv_iload_n hx hb dX6_message_205 rfl (lv_at hl 1 rfl) ?_
    obtain ⟨hi32, hw⟩ := hw
    refine xg_iald hx hb hK hP xs65 hi32 dX6_message_206 ?_
    refine lv_if_ne (tgt := 227) hx hb dX6_message_207 (by decide) (fun c33 => ?_) (fun c33 => ?_)
    · have hw := hw.2 c33
      refine lv_aload_n hx hb dX6_message_227 rfl (lv_at hl 0 rfl) ?_
      refine xg_getr (C := RX6) (TC := TX6) (N := 34) hx hb hts iX6 hown hK hP xs60 rfl 5 (by decide) f_19 (fun _ h9 => h9) rfl dX6_message_228 ?_
      refine lv_iload_n hx hb dX6_message_231 rfl (lv_at hl 1 rfl) ?_
      refine lv_dup2_11 hx hb dX6_message_232 rfl rfl ?_
      obtain ⟨hi34, hw⟩ := hw
      refine xg_iald hx hb hK hP xs65 hi34 dX6_message_233 ?_
      refine lv_iconst (v := 1) hx hb dX6_message_234 (by decide) ?_
      refine lv_isub hx hb dX6_message_235 ?_
      obtain ⟨hi35, hw⟩ := hw
      refine xg_iast hx hb hK hP hA hS xs65 hi35 dX6_message_236 (fun H locs h36 eh36 hP hS => ?_)
      have hw := hw h36 eh36
      refine lv_aload_n hx hb dX6_message_237 rfl (lv_at hl 0 rfl) ?_
      refine xg_getr (C := RX6) (TC := TX6) (N := 34) hx hb hts iX6 hown hK hP xs60 rfl 8 (by decide) f_29 (fun _ h9 => h9) rfl dX6_message_238 ?_
      refine lv_iload_n hx hb dX6_message_241 rfl (lv_at hl 1 rfl) ?_
      obtain ⟨hi37, hw⟩ := hw
      refine xg_iald hx hb hK hP xs68 hi37 dX6_message_242 ?_
      refine lv_if_le (tgt := 251) hx hb dX6_message_243 (by decide) (fun c38 => ?_) (fun c38 => ?_)
      · have hw := hw.1 c38
        exact j_251 (v8) _ _ _ _ hw hP hS (lv_sub hl [0, 1, 2, 3, 4, 5] rfl)
      · have hw := hw.2 c38
        refine lv_aload_n hx hb dX6_message_246 rfl (lv_at hl 0 rfl) ?_
        refine lv_iload_n hx hb dX6_message_247 rfl (lv_at hl 1 rfl) ?_
        refine xg_callv (va_runV (As := [.int (p0)]) (rest := []) ⟨hx, hb, hml, hown, hts⟩ (c_X6_tellsDrops l hl9 hA p0 hw) (cwV 1 hts gX6_message_X6_tellsDrops rfl rfl rfl (by decide +kernel) ⟨Nat.le_of_ble_eq_true rfl, Nat.le_of_ble_eq_true rfl⟩) (xg_preV hB0 hP hK hN hS xs60 rfl) rfl rfl hl.1 rfl (lv_room (Nat.le_of_ble_eq_true rfl)) dX6_message_248 ⟨Nat.le_of_ble_eq_true rfl, Nat.le_of_ble_eq_true rfl⟩) hS (fun _ h40 H locs hw hP hS => ?_)
        exact j_251 (v8) _ _ _ _ hw hP hS (lv_sub hl [0, 1, 2, 3, 4, 5] rfl)
    · have hw := hw.1 c33
      refine lv_aload_n hx hb dX6_message_210 rfl (lv_at hl 0 rfl) ?_
      refine xg_getr (C := RX6) (TC := TX6) (N := 34) hx hb hts iX6 hown hK hP xs60 rfl 8 (by decide) f_29 (fun _ h9 => h9) rfl dX6_message_211 ?_
      refine lv_iload_n hx hb dX6_message_214 rfl (lv_at hl 1 rfl) ?_
      refine lv_dup2_11 hx hb dX6_message_215 rfl rfl ?_
      obtain ⟨hi41, hw⟩ := hw
      refine xg_iald hx hb hK hP xs68 hi41 dX6_message_216 ?_
      refine lv_iconst (v := 1) hx hb dX6_message_217 (by decide) ?_
      refine lv_iadd hx hb dX6_message_218 ?_
      obtain ⟨hi42, hw⟩ := hw
      refine xg_iast hx hb hK hP hA hS xs68 hi42 dX6_message_219 (fun H locs h43 eh43 hP hS => ?_)
      have hw := hw h43 eh43
      refine lv_aload_n hx hb dX6_message_220 rfl (lv_at hl 0 rfl) ?_
      refine lv_iconst (v := 1) hx hb dX6_message_221 (by decide) ?_
      refine lv_iconst (v := 0) hx hb dX6_message_222 (by decide) ?_
      refine xg_calli (va_runV (As := [.int (1), .int (0)]) (rest := []) ⟨hx, hb, hml, hown, hts⟩ (c_X6_notes l hl9 hA (1 : Int32) (0 : Int32) hw) (cwV 2 hts gX6_message_X6_notes rfl rfl rfl (by decide +kernel) ⟨Nat.le_of_ble_eq_true rfl, Nat.le_of_ble_eq_true rfl⟩) (xg_preV hB0 hP hK hN hS xs60 rfl) rfl rfl hl.1 rfl (lv_room (Nat.le_of_ble_eq_true rfl)) dX6_message_223 ⟨Nat.le_of_ble_eq_true rfl, Nat.le_of_ble_eq_true rfl⟩) hS (fun r44 h45 H locs hw hP hS => ?_)
      exact xg_irets hx hb hr rfl hlocks hB0 hP hK hN hS dX6_message_226 (by decide) (by decide) hw
  have j_187 : ∀ (v8 : Int32) (h : xH) (H : Heap) (locs : List Loc) (ls : Array Slot), w_X6_message_187 p0 p1 p2 p3 p4 K v8 h → XP ad D T h H → va_S (fun q => B0 ≤ q) s.heap H locs → lv_has ls 10 [(0, .ref (ad (60))), (1, .int (p0)), (2, .int (p1)), (3, .int (p2)), (5, .int (p4)), (8, .int (v8))] → W p l e (headSpec wsX6_message ({ frames := 4, cells := 0, slots := 0, locals := 97 } : Room)).room s m ([.ref (ad (60)), .int (p0), .int (p1), .int (p2), .int (p3), .int (p4)] : List Value).toArray below meth c H locs 0 0 (MQ below (XQ B0 ad D T xei K) ([.ref (ad (60)), .int (p0), .int (p1), .int (p2), .int (p3), .int (p4)] : List Value).toArray s 0 0 (fun q => B0 ≤ q)) (F0 m 187 ls []) := by
    intro v8 h H locs ls hw hP hS hl 
    unfold w_X6_message_187 at hw
    refine lv_aload_n hx hb dX6_message_187 rfl (lv_at hl 0 rfl) ?_
    refine xg_getr (C := RX6) (TC := TX6) (N := 34) hx hb hts iX6 hown hK hP xs60 rfl 6 (by decide) f_23 (fun _ h9 => h9) rfl dX6_message_188 ?_
    refine lv_iload_n hx hb dX6_message_191 rfl (lv_at hl 1 rfl) ?_
    obtain ⟨hi28, hw⟩ := hw
    refine xg_iald hx hb hK hP xs66 hi28 dX6_message_192 ?_
    refine lv_if_le (tgt := 201) hx hb dX6_message_193 (by decide) (fun c29 => ?_) (fun c29 => ?_)
    · have hw := hw.1 c29
      exact j_201 (v8) _ _ _ _ hw hP hS (lv_sub hl [0, 1, 2, 3, 4, 5] rfl)
    · have hw := hw.2 c29
      refine lv_aload_n hx hb dX6_message_196 rfl (lv_at hl 0 rfl) ?_
      refine lv_iload_n hx hb dX6_message_197 rfl (lv_at hl 1 rfl) ?_
      refine xg_callv (va_runV (As := [.int (p0)]) (rest := []) ⟨hx, hb, hml, hown, hts⟩ (c_X6_tellsRepeats l hl9 hA p0 hw) (cwV 1 hts gX6_message_X6_tellsRepeats rfl rfl rfl (by decide +kernel) ⟨Nat.le_of_ble_eq_true rfl, Nat.le_of_ble_eq_true rfl⟩) (xg_preV hB0 hP hK hN hS xs60 rfl) rfl rfl hl.1 rfl (lv_room (Nat.le_of_ble_eq_true rfl)) dX6_message_198 ⟨Nat.le_of_ble_eq_true rfl, Nat.le_of_ble_eq_true rfl⟩) hS (fun _ h31 H locs hw hP hS => ?_)
      exact j_201 (v8) _ _ _ _ hw hP hS (lv_sub hl [0, 1, 2, 3, 4, 5] rfl)
  have j_169 : ∀ (s1 : Int32) (s2 : Int32) (h : xH) (H : Heap) (locs : List Loc) (ls : Array Slot), w_X6_message_169 p0 p1 p2 p3 p4 K s1 s2 h → XP ad D T h H → va_S (fun q => B0 ≤ q) s.heap H locs → lv_has ls 10 [(0, .ref (ad (60))), (1, .int (p0))] → W p l e (headSpec wsX6_message ({ frames := 4, cells := 0, slots := 0, locals := 97 } : Room)).room s m ([.ref (ad (60)), .int (p0), .int (p1), .int (p2), .int (p3), .int (p4)] : List Value).toArray below meth c H locs 0 0 (MQ below (XQ B0 ad D T xei K) ([.ref (ad (60)), .int (p0), .int (p1), .int (p2), .int (p3), .int (p4)] : List Value).toArray s 0 0 (fun q => B0 ≤ q)) (F0 m 169 ls [.int (s2), .int (s1), .ref (ad (67))]) := by
    intro s1 s2 h H locs ls hw hP hS hl 
    unfold w_X6_message_169 at hw
    obtain ⟨hi53, hw⟩ := hw
    refine xg_iast hx hb hK hP hA hS xs67 hi53 dX6_message_169 (fun H locs h54 eh54 hP hS => ?_)
    have hw := hw h54 eh54
    refine lv_aload_n hx hb dX6_message_170 rfl (lv_at hl 0 rfl) ?_
    refine xg_getr (C := RX6) (TC := TX6) (N := 34) hx hb hts iX6 hown hK hP xs60 rfl 6 (by decide) f_23 (fun _ h9 => h9) rfl dX6_message_171 ?_
    refine lv_iload_n hx hb dX6_message_174 rfl (lv_at hl 1 rfl) ?_
    refine lv_dup2_11 hx hb dX6_message_175 rfl rfl ?_
    obtain ⟨hi55, hw⟩ := hw
    refine xg_iald hx hb hK hP xs66 hi55 dX6_message_176 ?_
    refine lv_iconst (v := 1) hx hb dX6_message_177 (by decide) ?_
    refine lv_iadd hx hb dX6_message_178 ?_
    obtain ⟨hi56, hw⟩ := hw
    refine xg_iast hx hb hK hP hA hS xs66 hi56 dX6_message_179 (fun H locs h57 eh57 hP hS => ?_)
    have hw := hw h57 eh57
    refine lv_aload_n hx hb dX6_message_180 rfl (lv_at hl 0 rfl) ?_
    refine lv_iconst (v := 0) hx hb dX6_message_181 (by decide) ?_
    refine lv_iconst (v := 0) hx hb dX6_message_182 (by decide) ?_
    refine xg_calli (va_runV (As := [.int (0), .int (0)]) (rest := []) ⟨hx, hb, hml, hown, hts⟩ (c_X6_notes l hl9 hA (0 : Int32) (0 : Int32) hw) (cwV 2 hts gX6_message_X6_notes rfl rfl rfl (by decide +kernel) ⟨Nat.le_of_ble_eq_true rfl, Nat.le_of_ble_eq_true rfl⟩) (xg_preV hB0 hP hK hN hS xs60 rfl) rfl rfl hl.1 rfl (lv_room (Nat.le_of_ble_eq_true rfl)) dX6_message_183 ⟨Nat.le_of_ble_eq_true rfl, Nat.le_of_ble_eq_true rfl⟩) hS (fun r58 h59 H locs hw hP hS => ?_)
    exact xg_irets hx hb hr rfl hlocks hB0 hP hK hN hS dX6_message_186 (by decide) (by decide) hw
  have j_92 : ∀ (s0 : Nat) (s1 : Int32) (h : xH) (H : Heap) (locs : List Loc) (ls : Array Slot), w_X6_message_92 p0 p1 p2 p3 p4 K s0 s1 h → XP ad D T h H → va_S (fun q => B0 ≤ q) s.heap H locs → lv_has ls 10 [(0, .ref (ad (60))), (1, .int (p0)), (2, .int (p1)), (3, .int (p2)), (4, .int (p3)), (5, .int (p4))] → W p l e (headSpec wsX6_message ({ frames := 4, cells := 0, slots := 0, locals := 97 } : Room)).room s m ([.ref (ad (60)), .int (p0), .int (p1), .int (p2), .int (p3), .int (p4)] : List Value).toArray below meth c H locs 0 0 (MQ below (XQ B0 ad D T xei K) ([.ref (ad (60)), .int (p0), .int (p1), .int (p2), .int (p3), .int (p4)] : List Value).toArray s 0 0 (fun q => B0 ≤ q)) (F0 m 92 ls [.int (s1), .ref (ad (60))]) := by
    intro s0 s1 h H locs ls hw hP hS hl 
    unfold w_X6_message_92 at hw
    refine xg_calli (va_runV (As := [.int (s1)]) (rest := []) ⟨hx, hb, hml, hown, hts⟩ (c_X6_holds l hl9 hA s1 hw) (cwV 1 hts gX6_message_X6_holds rfl rfl rfl (by decide +kernel) ⟨Nat.le_of_ble_eq_true rfl, Nat.le_of_ble_eq_true rfl⟩) (xg_preV hB0 hP hK hN hS xs60 rfl) rfl rfl hl.1 rfl (lv_room (Nat.le_of_ble_eq_true rfl)) dX6_message_92 ⟨Nat.le_of_ble_eq_true rfl, Nat.le_of_ble_eq_true rfl⟩) hS (fun r18 h19 H locs hw hP hS => ?_)
    refine lv_if_ne (tgt := 100) hx hb dX6_message_95 (by decide) (fun c20 => ?_) (fun c20 => ?_)
    · have hw := hw.2 c20
      refine lv_ldc (v := 160000) hx hb hown (hts (.constant RX6 131 160000) (by decide +kernel)) dX6_message_100 ?_
      refine lv_iload_n hx hb dX6_message_102 rfl (lv_at hl 2 rfl) ?_
      refine lv_imul hx hb dX6_message_103 ?_
      refine lv_sipush (v := 20000) hx hb dX6_message_104 (by decide) ?_
      refine lv_iload_n hx hb dX6_message_107 rfl (lv_at hl 3 rfl) ?_
      refine lv_imul hx hb dX6_message_108 ?_
      refine lv_iadd hx hb dX6_message_109 ?_
      refine lv_sipush (v := 200) hx hb dX6_message_110 (by decide) ?_
      refine lv_iload hx hb dX6_message_113 (lv_at hl 4 rfl) ?_
      refine lv_imul hx hb dX6_message_115 ?_
      refine lv_iadd hx hb dX6_message_116 ?_
      refine lv_iload hx hb dX6_message_117 (lv_at hl 5 rfl) ?_
      refine lv_iadd hx hb dX6_message_119 ?_
      refine lv_iconst (v := 1) hx hb dX6_message_120 (by decide) ?_
      refine lv_isub hx hb dX6_message_121 ?_
      refine lv_topi (fun x21 ex21 => ?_)
      have hw := hw x21 ex21
      refine lv_istore (lv' := [(8, .int (x21)), (0, .ref (ad (60))), (1, .int (p0)), (2, .int (p1)), (3, .int (p2)), (4, .int (p3)), (5, .int (p4))]) hx hb dX6_message_122 hl (by decide) rfl (fun ls hl => ?_)
      refine lv_aload_n hx hb dX6_message_124 rfl (lv_at hl 1 rfl) ?_
      refine xg_get (C := RX6) (TC := TX6) (N := 34) hx hb hts iX6 hown hK hP xs60 rfl 4 (by decide) f_16 (fun _ h9 => h9) rfl dX6_message_125 ?_
      refine lv_if_le (tgt := 187) hx hb dX6_message_128 (by decide) (fun c22 => ?_) (fun c22 => ?_)
      · have hw := hw.1 c22
        exact j_187 (x21) _ _ _ _ hw hP hS (lv_sub hl [1, 2, 3, 4, 6, 0] rfl)
      · have hw := hw.2 c22
        refine lv_aload_n hx hb dX6_message_131 rfl (lv_at hl 1 rfl) ?_
        refine xg_getr (C := RX6) (TC := TX6) (N := 34) hx hb hts iX6 hown hK hP xs60 rfl 9 (by decide) f_32 (fun _ h9 => h9) rfl dX6_message_132 ?_
        refine lv_iload_n hx hb dX6_message_135 rfl (lv_at hl 2 rfl) ?_
        obtain ⟨hi23, hw⟩ := hw
        refine xg_iald hx hb hK hP xs69 hi23 dX6_message_136 ?_
        refine lv_iload hx hb dX6_message_137 (lv_at hl 0 rfl) ?_
        refine lv_icmp_ne (tgt := 187) hx hb dX6_message_139 (by decide) (fun c24 => ?_) (fun c24 => ?_)
        · have hw := hw.2 c24
          exact j_187 (x21) _ _ _ _ hw hP hS (lv_sub hl [1, 2, 3, 4, 6, 0] rfl)
        · have hw := hw.1 c24
          refine lv_aload_n hx hb dX6_message_142 rfl (lv_at hl 1 rfl) ?_
          refine xg_getr (C := RX6) (TC := TX6) (N := 34) hx hb hts iX6 hown hK hP xs60 rfl 7 (by decide) f_26 (fun _ h9 => h9) rfl dX6_message_143 ?_
          refine lv_iload_n hx hb dX6_message_146 rfl (lv_at hl 2 rfl) ?_
          refine lv_aload_n hx hb dX6_message_147 rfl (lv_at hl 1 rfl) ?_
          refine xg_getr (C := RX6) (TC := TX6) (N := 34) hx hb hts iX6 hown hK hP xs60 rfl 6 (by decide) f_23 (fun _ h9 => h9) rfl dX6_message_148 ?_
          refine lv_iload_n hx hb dX6_message_151 rfl (lv_at hl 2 rfl) ?_
          obtain ⟨hi25, hw⟩ := hw
          refine xg_iald hx hb hK hP xs66 hi25 dX6_message_152 ?_
          refine lv_if_ne (tgt := 163) hx hb dX6_message_153 (by decide) (fun c26 => ?_) (fun c26 => ?_)
          · have hw := hw.2 c26
            refine lv_aload_n hx hb dX6_message_163 rfl (lv_at hl 1 rfl) ?_
            refine xg_getr (C := RX6) (TC := TX6) (N := 34) hx hb hts iX6 hown hK hP xs60 rfl 7 (by decide) f_26 (fun _ h9 => h9) rfl dX6_message_164 ?_
            refine lv_iload_n hx hb dX6_message_167 rfl (lv_at hl 2 rfl) ?_
            obtain ⟨hi27, hw⟩ := hw
            refine xg_iald hx hb hK hP xs67 hi27 dX6_message_168 ?_
            exact j_169 (p0) ((h19 67 p0.toNatClampNeg)) _ _ _ _ hw hP hS (lv_sub hl [1, 2] rfl)
          · have hw := hw.1 c26
            refine lv_aload_n hx hb dX6_message_156 rfl (lv_at hl 1 rfl) ?_
            refine xg_get (C := RX6) (TC := TX6) (N := 34) hx hb hts iX6 hown hK hP xs60 rfl 1 (by decide) f_112 (fun _ h9 => h9) rfl dX6_message_157 ?_
            refine lv_goto (tgt := 169) hx hb dX6_message_160 (by decide) ?_
            exact j_169 (p0) ((h19 60 1)) _ _ _ _ hw hP hS (lv_sub hl [1, 2] rfl)
    · have hw := hw.1 c20
      refine lv_iconst (v := 0) hx hb dX6_message_98 (by decide) ?_
      exact xg_irets hx hb hr rfl hlocks hB0 hP hK hN hS dX6_message_99 (by decide) (by decide) hw
  have j_56 : ∀ (v6 : Int32) (s0 : Int32) (h : xH) (H : Heap) (locs : List Loc) (ls : Array Slot), w_X6_message_56 p0 p1 p2 p3 p4 K v6 s0 h → XP ad D T h H → va_S (fun q => B0 ≤ q) s.heap H locs → lv_has ls 10 [(0, .ref (ad (60))), (1, .int (p0)), (2, .int (p1)), (3, .int (p2)), (4, .int (p3)), (5, .int (p4)), (6, .int (v6))] → W p l e (headSpec wsX6_message ({ frames := 4, cells := 0, slots := 0, locals := 97 } : Room)).room s m ([.ref (ad (60)), .int (p0), .int (p1), .int (p2), .int (p3), .int (p4)] : List Value).toArray below meth c H locs 0 0 (MQ below (XQ B0 ad D T xei K) ([.ref (ad (60)), .int (p0), .int (p1), .int (p2), .int (p3), .int (p4)] : List Value).toArray s 0 0 (fun q => B0 ≤ q)) (F0 m 56 ls [.int (s0)]) := by
    intro v6 s0 h H locs ls hw hP hS hl 
    unfold w_X6_message_56 at hw
    refine lv_istore (lv' := [(7, .int (s0)), (0, .ref (ad (60))), (1, .int (p0)), (2, .int (p1)), (3, .int (p2)), (4, .int (p3)), (5, .int (p4)), (6, .int (v6))]) hx hb dX6_message_56 hl (by decide) rfl (fun ls hl => ?_)
    refine lv_aload_n hx hb dX6_message_58 rfl (lv_at hl 1 rfl) ?_
    refine lv_iload hx hb dX6_message_59 (lv_at hl 7 rfl) ?_
    refine lv_if_ne (tgt := 68) hx hb dX6_message_61 (by decide) (fun c15 => ?_) (fun c15 => ?_)
    · have hw := hw.2 c15
      refine lv_iload hx hb dX6_message_68 (lv_at hl 0 rfl) ?_
      refine lv_if_ne (tgt := 77) hx hb dX6_message_70 (by decide) (fun c16 => ?_) (fun c16 => ?_)
      · have hw := hw.2 c16
        refine lv_aload_n hx hb dX6_message_77 rfl (lv_at hl 1 rfl) ?_
        refine xg_get (C := RX6) (TC := TX6) (N := 34) hx hb hts iX6 hown hK hP xs60 rfl 31 (by decide) f_137 (fun _ h9 => h9) rfl dX6_message_78 ?_
        refine lv_sipush (v := 400) hx hb dX6_message_81 (by decide) ?_
        refine lv_icmp_ne (tgt := 91) hx hb dX6_message_84 (by decide) (fun c17 => ?_) (fun c17 => ?_)
        · have hw := hw.2 c17
          refine lv_iconst (v := 0) hx hb dX6_message_91 (by decide) ?_
          exact j_92 (60) (0) _ _ _ _ hw hP hS (lv_sub hl [1, 2, 3, 4, 5, 6] rfl)
        · have hw := hw.1 c17
          refine lv_iconst (v := 3) hx hb dX6_message_87 (by decide) ?_
          refine lv_goto (tgt := 92) hx hb dX6_message_88 (by decide) ?_
          exact j_92 (60) (3) _ _ _ _ hw hP hS (lv_sub hl [1, 2, 3, 4, 5, 6] rfl)
      · have hw := hw.1 c16
        refine lv_iconst (v := 2) hx hb dX6_message_73 (by decide) ?_
        refine lv_goto (tgt := 92) hx hb dX6_message_74 (by decide) ?_
        exact j_92 (60) (2) _ _ _ _ hw hP hS (lv_sub hl [1, 2, 3, 4, 5, 6] rfl)
    · have hw := hw.1 c15
      refine lv_iconst (v := 1) hx hb dX6_message_64 (by decide) ?_
      refine lv_goto (tgt := 92) hx hb dX6_message_65 (by decide) ?_
      exact j_92 (60) (1) _ _ _ _ hw hP hS (lv_sub hl [1, 2, 3, 4, 5, 6] rfl)
  have j_55 : ∀ (v6 : Int32) (h : xH) (H : Heap) (locs : List Loc) (ls : Array Slot), w_X6_message_55 p0 p1 p2 p3 p4 K v6 h → XP ad D T h H → va_S (fun q => B0 ≤ q) s.heap H locs → lv_has ls 10 [(0, .ref (ad (60))), (1, .int (p0)), (2, .int (p1)), (3, .int (p2)), (4, .int (p3)), (5, .int (p4)), (6, .int (v6))] → W p l e (headSpec wsX6_message ({ frames := 4, cells := 0, slots := 0, locals := 97 } : Room)).room s m ([.ref (ad (60)), .int (p0), .int (p1), .int (p2), .int (p3), .int (p4)] : List Value).toArray below meth c H locs 0 0 (MQ below (XQ B0 ad D T xei K) ([.ref (ad (60)), .int (p0), .int (p1), .int (p2), .int (p3), .int (p4)] : List Value).toArray s 0 0 (fun q => B0 ≤ q)) (F0 m 55 ls []) := by
    intro v6 h H locs ls hw hP hS hl 
    unfold w_X6_message_55 at hw
    refine lv_iconst (v := 0) hx hb dX6_message_55 (by decide) ?_
    exact j_56 (v6) (0) _ _ _ _ hw hP hS (lv_sub hl [0, 1, 2, 3, 4, 5, 6] rfl)
  unfold w_X6_message at hw
  refine lv_iload_n hx hb dX6_message_0 rfl (lv_at hl 1 rfl) ?_
  refine lv_iconst (v := 0) hx hb dX6_message_1 (by decide) ?_
  refine lv_iconst (v := 5) hx hb dX6_message_2 (by decide) ?_
  refine xg_calli (va_runS (As := [.int (p0), .int (0), .int (5)]) (rest := []) ⟨hx, hb, hml, hown, hts⟩ (c_X6_isIn l hl9 hA p0 (0 : Int32) (5 : Int32) hw) (va_cwS 3 hts gX6_message_X6_isIn rfl rfl rfl (by decide +kernel) ⟨Nat.le_of_ble_eq_true rfl, Nat.le_of_ble_eq_true rfl⟩) (xg_preS hB0 hP hK hN hS) rfl rfl hl.1 rfl (lv_room (Nat.le_of_ble_eq_true rfl)) dX6_message_3 ⟨Nat.le_of_ble_eq_true rfl, Nat.le_of_ble_eq_true rfl⟩) hS (fun r1 h2 H locs hw hP hS => ?_)
  refine lv_istore (lv' := [(6, .int (r1)), (0, .ref (ad (60))), (1, .int (p0)), (2, .int (p1)), (3, .int (p2)), (4, .int (p3)), (5, .int (p4))]) hx hb dX6_message_6 hl (by decide) rfl (fun ls hl => ?_)
  refine lv_iload_n hx hb dX6_message_8 rfl (lv_at hl 3 rfl) ?_
  refine lv_iconst (v := 0) hx hb dX6_message_9 (by decide) ?_
  refine lv_bipush (v := 7) hx hb dX6_message_10 (by decide) ?_
  refine xg_calli (va_runS (As := [.int (p1), .int (0), .int (7)]) (rest := []) ⟨hx, hb, hml, hown, hts⟩ (c_X6_isIn l hl9 hA p1 (0 : Int32) (7 : Int32) hw) (va_cwS 3 hts gX6_message_X6_isIn rfl rfl rfl (by decide +kernel) ⟨Nat.le_of_ble_eq_true rfl, Nat.le_of_ble_eq_true rfl⟩) (xg_preS hB0 hP hK hN hS) rfl rfl hl.1 rfl (lv_room (Nat.le_of_ble_eq_true rfl)) dX6_message_12 ⟨Nat.le_of_ble_eq_true rfl, Nat.le_of_ble_eq_true rfl⟩) hS (fun r3 h4 H locs hw hP hS => ?_)
  refine lv_if_eq (tgt := 55) hx hb dX6_message_15 (by decide) (fun c5 => ?_) (fun c5 => ?_)
  · have hw := hw.1 c5
    exact j_55 (r1) _ _ _ _ hw hP hS (lv_sub hl [1, 2, 3, 4, 5, 6, 0] rfl)
  · have hw := hw.2 c5
    refine lv_iload_n hx hb dX6_message_18 rfl (lv_at hl 4 rfl) ?_
    refine lv_iconst (v := 0) hx hb dX6_message_19 (by decide) ?_
    refine lv_bipush (v := 7) hx hb dX6_message_20 (by decide) ?_
    refine xg_calli (va_runS (As := [.int (p2), .int (0), .int (7)]) (rest := []) ⟨hx, hb, hml, hown, hts⟩ (c_X6_isIn l hl9 hA p2 (0 : Int32) (7 : Int32) hw) (va_cwS 3 hts gX6_message_X6_isIn rfl rfl rfl (by decide +kernel) ⟨Nat.le_of_ble_eq_true rfl, Nat.le_of_ble_eq_true rfl⟩) (xg_preS hB0 hP hK hN hS) rfl rfl hl.1 rfl (lv_room (Nat.le_of_ble_eq_true rfl)) dX6_message_22 ⟨Nat.le_of_ble_eq_true rfl, Nat.le_of_ble_eq_true rfl⟩) hS (fun r6 h7 H locs hw hP hS => ?_)
    refine lv_if_eq (tgt := 55) hx hb dX6_message_25 (by decide) (fun c8 => ?_) (fun c8 => ?_)
    · have hw := hw.1 c8
      exact j_55 (r1) _ _ _ _ hw hP hS (lv_sub hl [1, 2, 3, 4, 5, 6, 0] rfl)
    · have hw := hw.2 c8
      refine lv_iload hx hb dX6_message_28 (lv_at hl 5 rfl) ?_
      refine lv_iconst (v := 0) hx hb dX6_message_30 (by decide) ?_
      refine lv_bipush (v := 99) hx hb dX6_message_31 (by decide) ?_
      refine xg_calli (va_runS (As := [.int (p3), .int (0), .int (99)]) (rest := []) ⟨hx, hb, hml, hown, hts⟩ (c_X6_isIn l hl9 hA p3 (0 : Int32) (99 : Int32) hw) (va_cwS 3 hts gX6_message_X6_isIn rfl rfl rfl (by decide +kernel) ⟨Nat.le_of_ble_eq_true rfl, Nat.le_of_ble_eq_true rfl⟩) (xg_preS hB0 hP hK hN hS) rfl rfl hl.1 rfl (lv_room (Nat.le_of_ble_eq_true rfl)) dX6_message_33 ⟨Nat.le_of_ble_eq_true rfl, Nat.le_of_ble_eq_true rfl⟩) hS (fun r9 h10 H locs hw hP hS => ?_)
      refine lv_if_eq (tgt := 55) hx hb dX6_message_36 (by decide) (fun c11 => ?_) (fun c11 => ?_)
      · have hw := hw.1 c11
        exact j_55 (r1) _ _ _ _ hw hP hS (lv_sub hl [1, 2, 3, 4, 5, 6, 0] rfl)
      · have hw := hw.2 c11
        refine lv_iload hx hb dX6_message_39 (lv_at hl 6 rfl) ?_
        refine lv_iconst (v := 1) hx hb dX6_message_41 (by decide) ?_
        refine lv_sipush (v := 200) hx hb dX6_message_42 (by decide) ?_
        refine xg_calli (va_runS (As := [.int (p4), .int (1), .int (200)]) (rest := []) ⟨hx, hb, hml, hown, hts⟩ (c_X6_isIn l hl9 hA p4 (1 : Int32) (200 : Int32) hw) (va_cwS 3 hts gX6_message_X6_isIn rfl rfl rfl (by decide +kernel) ⟨Nat.le_of_ble_eq_true rfl, Nat.le_of_ble_eq_true rfl⟩) (xg_preS hB0 hP hK hN hS) rfl rfl hl.1 rfl (lv_room (Nat.le_of_ble_eq_true rfl)) dX6_message_45 ⟨Nat.le_of_ble_eq_true rfl, Nat.le_of_ble_eq_true rfl⟩) hS (fun r12 h13 H locs hw hP hS => ?_)
        refine lv_if_eq (tgt := 55) hx hb dX6_message_48 (by decide) (fun c14 => ?_) (fun c14 => ?_)
        · have hw := hw.1 c14
          exact j_55 (r1) _ _ _ _ hw hP hS (lv_sub hl [1, 2, 3, 4, 5, 6, 0] rfl)
        · have hw := hw.2 c14
          refine lv_iconst (v := 1) hx hb dX6_message_51 (by decide) ?_
          refine lv_goto (tgt := 56) hx hb dX6_message_52 (by decide) ?_
          exact j_56 (r1) (1) _ _ _ _ hw hP hS (lv_sub hl [1, 2, 3, 4, 5, 6, 0] rfl)
set_option maxHeartbeats 4000000 in
set_option maxRecDepth 100000 in
theorem c_X6_due (l : Launch) (hl9 : l.stackTraces = false) {B0 : Nat} {ad : Nat → Nat} {D : va_G} {T : Nat → ClassId} (hA : XA B0 ad) {h : xH} {K : Int32 → xH → Prop} (hw : w_X6_due h K) : XM l yX6_due wsX6_due ({ frames := 0, cells := 0, slots := 0, locals := 0 } : Room) B0 ad D T h [.ref (ad (60))] xei K 0 0 := by
  unfold XM
  refine Met.ofW (cc := cX6_due) (maxL := 4) (ret := (some .int)) (by decide) rfl ?_
  intro p e s m args below meth c s₁ B hml hv
  obtain ⟨rfl, hB0, hP, hK, hN⟩ := hv
  have hx := B.exec
  have hb := B.bytes
  have hr := B.returns
  have hts := atoms_spec (ws := wsX6_due) B.pre
  have hown : s.vm.findClass RX6 = some m.cls := findClass_of_methodNamed B.named
  have hlocks := B.notSynchronized
  have iX6 : ∀ w ∈ u_ws RX6 TX6 34, w ∈ wsX6_due := by decide +kernel
  have f_16 := hts (.fieldLink RX6 16 "LogSpoolerModel" "fold" "I") (by decide +kernel)
  have f_23 := hts (.fieldLink RX6 23 "LogSpoolerModel" "repeats" "[I") (by decide +kernel)
  have f_26 := hts (.fieldLink RX6 26 "LogSpoolerModel" "firstRepeats" "[I") (by decide +kernel)
  have f_112 := hts (.fieldLink RX6 112 "LogSpoolerModel" "time" "I") (by decide +kernel)
  have hS : va_S (fun q => B0 ≤ q) s.heap s.heap [] := va_S.rf
  have hl := lv_entry ([.ref (ad (60))]) (n := 4) (Nat.le_of_ble_eq_true rfl)
  rw [lg_entry_eq]
  generalize (lg_sl ([.ref (ad (60))]) ++ List.replicate (4 - (lg_sl ([.ref (ad (60))])).length) Slot.unset).toArray = ls at hl ⊢
  have hl : lv_has ls 4 [(0, .ref (ad (60)))] := hl
  have j_70 : ∀ (R9 : Int32 → Int32 → xH → Prop) (hR9 : ∀ (v1 : Int32) (v2 : Int32) (h : xH) (H : Heap) (locs : List Loc) (ls : Array Slot), R9 v1 v2 h → XP ad D T h H → va_S (fun q => B0 ≤ q) s.heap H locs → lv_has ls 4 [(0, .ref (ad (60))), (1, .int (v1)), (2, .int (v2))] → W p l e (headSpec wsX6_due ({ frames := 0, cells := 0, slots := 0, locals := 0 } : Room)).room s m ([.ref (ad (60))] : List Value).toArray below meth c H locs 0 0 (MQ below (XQ B0 ad D T xei K) ([.ref (ad (60))] : List Value).toArray s 0 0 (fun q => B0 ≤ q)) (F0 m 4 ls [])) (v2 : Int32) (s0 : Int32) (h : xH) (H : Heap) (locs : List Loc) (ls : Array Slot), w_X6_due_70 K R9 v2 s0 h → XP ad D T h H → va_S (fun q => B0 ≤ q) s.heap H locs → lv_has ls 4 [(0, .ref (ad (60))), (2, .int (v2))] → W p l e (headSpec wsX6_due ({ frames := 0, cells := 0, slots := 0, locals := 0 } : Room)).room s m ([.ref (ad (60))] : List Value).toArray below meth c H locs 0 0 (MQ below (XQ B0 ad D T xei K) ([.ref (ad (60))] : List Value).toArray s 0 0 (fun q => B0 ≤ q)) (F0 m 70 ls [.int (s0)]) := by
    intro R9 hR9 v2 s0 h H locs ls hw hP hS hl 
    unfold w_X6_due_70 at hw
    refine lv_istore_n (lv' := [(1, .int (s0)), (0, .ref (ad (60))), (2, .int (v2))]) hx hb dX6_due_70 rfl hl (by decide) rfl (fun ls hl => ?_)
    obtain ⟨x11, ex11⟩ : ∃ z : Int32, z = v2 + (-1) := ⟨_, rfl⟩
    have hw := hw x11 ex11
    refine lv_iinc (v := x11) (lv' := [(2, .int (x11)), (1, .int (s0)), (0, .ref (ad (60)))]) hx hb dX6_due_71 hl (k := 2) rfl (by rw [ex11]; rfl) (by decide) rfl (fun ls hl => ?_)
    refine lv_goto (tgt := 4) hx hb dX6_due_74 (by decide) ?_
    exact hR9 (s0) (x11) _ _ _ _ hw hP hS (lv_sub hl [2, 1, 0] rfl)
  have j_69 : ∀ (R9 : Int32 → Int32 → xH → Prop) (hR9 : ∀ (v1 : Int32) (v2 : Int32) (h : xH) (H : Heap) (locs : List Loc) (ls : Array Slot), R9 v1 v2 h → XP ad D T h H → va_S (fun q => B0 ≤ q) s.heap H locs → lv_has ls 4 [(0, .ref (ad (60))), (1, .int (v1)), (2, .int (v2))] → W p l e (headSpec wsX6_due ({ frames := 0, cells := 0, slots := 0, locals := 0 } : Room)).room s m ([.ref (ad (60))] : List Value).toArray below meth c H locs 0 0 (MQ below (XQ B0 ad D T xei K) ([.ref (ad (60))] : List Value).toArray s 0 0 (fun q => B0 ≤ q)) (F0 m 4 ls [])) (v1 : Int32) (v2 : Int32) (h : xH) (H : Heap) (locs : List Loc) (ls : Array Slot), w_X6_due_69 K R9 v1 v2 h → XP ad D T h H → va_S (fun q => B0 ≤ q) s.heap H locs → lv_has ls 4 [(0, .ref (ad (60))), (1, .int (v1)), (2, .int (v2))] → W p l e (headSpec wsX6_due ({ frames := 0, cells := 0, slots := 0, locals := 0 } : Room)).room s m ([.ref (ad (60))] : List Value).toArray below meth c H locs 0 0 (MQ below (XQ B0 ad D T xei K) ([.ref (ad (60))] : List Value).toArray s 0 0 (fun q => B0 ≤ q)) (F0 m 69 ls []) := by
    intro R9 hR9 v1 v2 h H locs ls hw hP hS hl 
    unfold w_X6_due_69 at hw
    refine lv_iload_n hx hb dX6_due_69 rfl (lv_at hl 1 rfl) ?_
    exact j_70 _ (hR9) (v2) (v1) _ _ _ _ hw hP hS (lv_sub hl [0, 2] rfl)
  have j_65 : ∀ (R9 : Int32 → Int32 → xH → Prop) (hR9 : ∀ (v1 : Int32) (v2 : Int32) (h : xH) (H : Heap) (locs : List Loc) (ls : Array Slot), R9 v1 v2 h → XP ad D T h H → va_S (fun q => B0 ≤ q) s.heap H locs → lv_has ls 4 [(0, .ref (ad (60))), (1, .int (v1)), (2, .int (v2))] → W p l e (headSpec wsX6_due ({ frames := 0, cells := 0, slots := 0, locals := 0 } : Room)).room s m ([.ref (ad (60))] : List Value).toArray below meth c H locs 0 0 (MQ below (XQ B0 ad D T xei K) ([.ref (ad (60))] : List Value).toArray s 0 0 (fun q => B0 ≤ q)) (F0 m 4 ls [])) (v2 : Int32) (h : xH) (H : Heap) (locs : List Loc) (ls : Array Slot), w_X6_due_65 K R9 v2 h → XP ad D T h H → va_S (fun q => B0 ≤ q) s.heap H locs → lv_has ls 4 [(0, .ref (ad (60))), (2, .int (v2))] → W p l e (headSpec wsX6_due ({ frames := 0, cells := 0, slots := 0, locals := 0 } : Room)).room s m ([.ref (ad (60))] : List Value).toArray below meth c H locs 0 0 (MQ below (XQ B0 ad D T xei K) ([.ref (ad (60))] : List Value).toArray s 0 0 (fun q => B0 ≤ q)) (F0 m 65 ls []) := by
    intro R9 hR9 v2 h H locs ls hw hP hS hl 
    unfold w_X6_due_65 at hw
    refine lv_iload_n hx hb dX6_due_65 rfl (lv_at hl 1 rfl) ?_
    refine lv_goto (tgt := 70) hx hb dX6_due_66 (by decide) ?_
    exact j_70 _ (hR9) (v2) (v2) _ _ _ _ hw hP hS (lv_sub hl [0, 1] rfl)
  have j_40 : ∀ (R9 : Int32 → Int32 → xH → Prop) (hR9 : ∀ (v1 : Int32) (v2 : Int32) (h : xH) (H : Heap) (locs : List Loc) (ls : Array Slot), R9 v1 v2 h → XP ad D T h H → va_S (fun q => B0 ≤ q) s.heap H locs → lv_has ls 4 [(0, .ref (ad (60))), (1, .int (v1)), (2, .int (v2))] → W p l e (headSpec wsX6_due ({ frames := 0, cells := 0, slots := 0, locals := 0 } : Room)).room s m ([.ref (ad (60))] : List Value).toArray below meth c H locs 0 0 (MQ below (XQ B0 ad D T xei K) ([.ref (ad (60))] : List Value).toArray s 0 0 (fun q => B0 ≤ q)) (F0 m 4 ls [])) (v1 : Int32) (v2 : Int32) (s0 : Int32) (h : xH) (H : Heap) (locs : List Loc) (ls : Array Slot), w_X6_due_40 K R9 v1 v2 s0 h → XP ad D T h H → va_S (fun q => B0 ≤ q) s.heap H locs → lv_has ls 4 [(0, .ref (ad (60))), (1, .int (v1)), (2, .int (v2))] → W p l e (headSpec wsX6_due ({ frames := 0, cells := 0, slots := 0, locals := 0 } : Room)).room s m ([.ref (ad (60))] : List Value).toArray below meth c H locs 0 0 (MQ below (XQ B0 ad D T xei K) ([.ref (ad (60))] : List Value).toArray s 0 0 (fun q => B0 ≤ q)) (F0 m 40 ls [.int (s0)]) := by
    intro R9 hR9 v1 v2 s0 h H locs ls hw hP hS hl 
    unfold w_X6_due_40 at hw
    refine lv_istore_n (lv' := [(3, .int (s0)), (0, .ref (ad (60))), (1, .int (v1)), (2, .int (v2))]) hx hb dX6_due_40 rfl hl (by decide) rfl (fun ls hl => ?_)
    refine lv_iload_n hx hb dX6_due_41 rfl (lv_at hl 0 rfl) ?_
    refine lv_if_eq (tgt := 69) hx hb dX6_due_42 (by decide) (fun c6 => ?_) (fun c6 => ?_)
    · have hw := hw.1 c6
      exact j_69 _ (hR9) (v1) (v2) _ _ _ _ hw hP hS (lv_sub hl [1, 2, 3] rfl)
    · have hw := hw.2 c6
      refine lv_iload_n hx hb dX6_due_45 rfl (lv_at hl 2 rfl) ?_
      refine lv_iconst (v := (-1)) hx hb dX6_due_46 (by decide) ?_
      refine lv_icmp_eq (tgt := 65) hx hb dX6_due_47 (by decide) (fun c7 => ?_) (fun c7 => ?_)
      · have hw := hw.1 c7
        exact j_65 _ (hR9) (v2) _ _ _ _ hw hP hS (lv_sub hl [1, 3] rfl)
      · have hw := hw.2 c7
        refine lv_aload_n hx hb dX6_due_50 rfl (lv_at hl 1 rfl) ?_
        refine xg_getr (C := RX6) (TC := TX6) (N := 34) hx hb hts iX6 hown hK hP xs60 rfl 7 (by decide) f_26 (fun _ h9 => h9) rfl dX6_due_51 ?_
        refine lv_iload_n hx hb dX6_due_54 rfl (lv_at hl 3 rfl) ?_
        obtain ⟨hi8, hw⟩ := hw
        refine xg_iald hx hb hK hP xs67 hi8 dX6_due_55 ?_
        refine lv_aload_n hx hb dX6_due_56 rfl (lv_at hl 1 rfl) ?_
        refine xg_getr (C := RX6) (TC := TX6) (N := 34) hx hb hts iX6 hown hK hP xs60 rfl 7 (by decide) f_26 (fun _ h9 => h9) rfl dX6_due_57 ?_
        refine lv_iload_n hx hb dX6_due_60 rfl (lv_at hl 2 rfl) ?_
        obtain ⟨hi9, hw⟩ := hw
        refine xg_iald hx hb hK hP xs67 hi9 dX6_due_61 ?_
        refine lv_icmp_gt (tgt := 69) hx hb dX6_due_62 (by decide) (fun c10 => ?_) (fun c10 => ?_)
        · have hw := hw.1 c10
          exact j_69 _ (hR9) (v1) (v2) _ _ _ _ hw hP hS (lv_sub hl [1, 2, 3] rfl)
        · have hw := hw.2 c10
          exact j_65 _ (hR9) (v2) _ _ _ _ hw hP hS (lv_sub hl [1, 3] rfl)
  have j_39 : ∀ (R9 : Int32 → Int32 → xH → Prop) (hR9 : ∀ (v1 : Int32) (v2 : Int32) (h : xH) (H : Heap) (locs : List Loc) (ls : Array Slot), R9 v1 v2 h → XP ad D T h H → va_S (fun q => B0 ≤ q) s.heap H locs → lv_has ls 4 [(0, .ref (ad (60))), (1, .int (v1)), (2, .int (v2))] → W p l e (headSpec wsX6_due ({ frames := 0, cells := 0, slots := 0, locals := 0 } : Room)).room s m ([.ref (ad (60))] : List Value).toArray below meth c H locs 0 0 (MQ below (XQ B0 ad D T xei K) ([.ref (ad (60))] : List Value).toArray s 0 0 (fun q => B0 ≤ q)) (F0 m 4 ls [])) (v1 : Int32) (v2 : Int32) (h : xH) (H : Heap) (locs : List Loc) (ls : Array Slot), w_X6_due_39 K R9 v1 v2 h → XP ad D T h H → va_S (fun q => B0 ≤ q) s.heap H locs → lv_has ls 4 [(0, .ref (ad (60))), (1, .int (v1)), (2, .int (v2))] → W p l e (headSpec wsX6_due ({ frames := 0, cells := 0, slots := 0, locals := 0 } : Room)).room s m ([.ref (ad (60))] : List Value).toArray below meth c H locs 0 0 (MQ below (XQ B0 ad D T xei K) ([.ref (ad (60))] : List Value).toArray s 0 0 (fun q => B0 ≤ q)) (F0 m 39 ls []) := by
    intro R9 hR9 v1 v2 h H locs ls hw hP hS hl 
    unfold w_X6_due_39 at hw
    refine lv_iconst (v := 0) hx hb dX6_due_39 (by decide) ?_
    exact j_40 _ (hR9) (v1) (v2) (0) _ _ _ _ hw hP hS (lv_sub hl [0, 1, 2] rfl)
  have j_4 : ∀ (n : Nat) (v1 : Int32) (v2 : Int32) (h : xH) (H : Heap) (locs : List Loc) (ls : Array Slot), w_X6_due_4 K n v1 v2 h → XP ad D T h H → va_S (fun q => B0 ≤ q) s.heap H locs → lv_has ls 4 [(0, .ref (ad (60))), (1, .int (v1)), (2, .int (v2))] → W p l e (headSpec wsX6_due ({ frames := 0, cells := 0, slots := 0, locals := 0 } : Room)).room s m ([.ref (ad (60))] : List Value).toArray below meth c H locs 0 0 (MQ below (XQ B0 ad D T xei K) ([.ref (ad (60))] : List Value).toArray s 0 0 (fun q => B0 ≤ q)) (F0 m 4 ls []) := by
    intro n
    induction n with
    | zero => intro v1 v2 h H locs ls hw; exact hw.elim
    | succ n9 ih =>
      intro v1 v2 h H locs ls hw hP hS hl 
      rw [w_X6_due_4_s] at hw
      refine lv_iload_n hx hb dX6_due_4 rfl (lv_at hl 2 rfl) ?_
      refine lv_if_lt (tgt := 77) hx hb dX6_due_5 (by decide) (fun c1 => ?_) (fun c1 => ?_)
      · have hw := hw.1 c1
        refine lv_iload_n hx hb dX6_due_77 rfl (lv_at hl 1 rfl) ?_
        exact xg_irets hx hb hr rfl hlocks hB0 hP hK hN hS dX6_due_78 (by decide) (by decide) hw
      · have hw := hw.2 c1
        refine lv_aload_n hx hb dX6_due_8 rfl (lv_at hl 0 rfl) ?_
        refine xg_getr (C := RX6) (TC := TX6) (N := 34) hx hb hts iX6 hown hK hP xs60 rfl 6 (by decide) f_23 (fun _ h9 => h9) rfl dX6_due_9 ?_
        refine lv_iload_n hx hb dX6_due_12 rfl (lv_at hl 2 rfl) ?_
        obtain ⟨hi2, hw⟩ := hw
        refine xg_iald hx hb hK hP xs66 hi2 dX6_due_13 ?_
        refine lv_if_le (tgt := 39) hx hb dX6_due_14 (by decide) (fun c3 => ?_) (fun c3 => ?_)
        · have hw := hw.1 c3
          exact j_39 _ (ih) (v1) (v2) _ _ _ _ hw hP hS (lv_sub hl [0, 1, 2] rfl)
        · have hw := hw.2 c3
          refine lv_aload_n hx hb dX6_due_17 rfl (lv_at hl 0 rfl) ?_
          refine xg_get (C := RX6) (TC := TX6) (N := 34) hx hb hts iX6 hown hK hP xs60 rfl 1 (by decide) f_112 (fun _ h9 => h9) rfl dX6_due_18 ?_
          refine lv_aload_n hx hb dX6_due_21 rfl (lv_at hl 0 rfl) ?_
          refine xg_getr (C := RX6) (TC := TX6) (N := 34) hx hb hts iX6 hown hK hP xs60 rfl 7 (by decide) f_26 (fun _ h9 => h9) rfl dX6_due_22 ?_
          refine lv_iload_n hx hb dX6_due_25 rfl (lv_at hl 2 rfl) ?_
          obtain ⟨hi4, hw⟩ := hw
          refine xg_iald hx hb hK hP xs67 hi4 dX6_due_26 ?_
          refine lv_isub hx hb dX6_due_27 ?_
          refine lv_aload_n hx hb dX6_due_28 rfl (lv_at hl 0 rfl) ?_
          refine xg_get (C := RX6) (TC := TX6) (N := 34) hx hb hts iX6 hown hK hP xs60 rfl 4 (by decide) f_16 (fun _ h9 => h9) rfl dX6_due_29 ?_
          refine lv_icmp_lt (tgt := 39) hx hb dX6_due_32 (by decide) (fun c5 => ?_) (fun c5 => ?_)
          · have hw := hw.1 c5
            exact j_39 _ (ih) (v1) (v2) _ _ _ _ hw hP hS (lv_sub hl [0, 1, 2] rfl)
          · have hw := hw.2 c5
            refine lv_iconst (v := 1) hx hb dX6_due_35 (by decide) ?_
            refine lv_goto (tgt := 40) hx hb dX6_due_36 (by decide) ?_
            exact j_40 _ (ih) (v1) (v2) (1) _ _ _ _ hw hP hS (lv_sub hl [0, 1, 2] rfl)
  unfold w_X6_due at hw
  refine lv_iconst (v := (-1)) hx hb dX6_due_0 (by decide) ?_
  refine lv_istore_n (lv' := [(1, .int ((-1))), (0, .ref (ad (60)))]) hx hb dX6_due_1 rfl hl (by decide) rfl (fun ls hl => ?_)
  refine lv_iconst (v := 5) hx hb dX6_due_2 (by decide) ?_
  refine lv_istore_n (lv' := [(2, .int (5)), (1, .int ((-1))), (0, .ref (ad (60)))]) hx hb dX6_due_3 rfl hl (by decide) rfl (fun ls hl => ?_)
  obtain ⟨n9, hw⟩ := hw
  exact j_4 n9 ((-1)) (5) _ _ _ _ hw hP hS (lv_sub hl [2, 1, 0] rfl)
set_option maxHeartbeats 4000000 in
set_option maxRecDepth 100000 in
theorem c_X6_passes (l : Launch) (hl9 : l.stackTraces = false) {B0 : Nat} {ad : Nat → Nat} {D : va_G} {T : Nat → ClassId} (hA : XA B0 ad) {h : xH} {K : Unit → xH → Prop} (hw : w_X6_passes h K) : XM l yX6_passes wsX6_passes ({ frames := 4, cells := 0, slots := 0, locals := 97 } : Room) B0 ad D T h [.ref (ad (60))] xev K 0 0 := by
  unfold XM
  refine Met.ofW (cc := cX6_passes) (maxL := 3) (ret := none) (by decide) rfl ?_
  intro p e s m args below meth c s₁ B hml hv
  obtain ⟨rfl, hB0, hP, hK, hN⟩ := hv
  have hx := B.exec
  have hb := B.bytes
  have hr := B.returns
  have hts := atoms_spec (ws := wsX6_passes) B.pre
  have hown : s.vm.findClass RX6 = some m.cls := findClass_of_methodNamed B.named
  have hlocks := B.notSynchronized
  have iX6 : ∀ w ∈ u_ws RX6 TX6 34, w ∈ wsX6_passes := by decide +kernel
  have f_7 := hts (.fieldLink RX6 7 "LogSpoolerModel" "burst" "I") (by decide +kernel)
  have f_13 := hts (.fieldLink RX6 13 "LogSpoolerModel" "tokenTime" "I") (by decide +kernel)
  have f_19 := hts (.fieldLink RX6 19 "LogSpoolerModel" "tokens" "[I") (by decide +kernel)
  have f_54 := hts (.fieldLink RX6 54 "LogSpoolerModel" "ages" "[I") (by decide +kernel)
  have f_69 := hts (.fieldLink RX6 69 "LogSpoolerModel" "starts" "[I") (by decide +kernel)
  have f_75 := hts (.fieldLink RX6 75 "LogSpoolerModel" "times" "[I") (by decide +kernel)
  have f_112 := hts (.fieldLink RX6 112 "LogSpoolerModel" "time" "I") (by decide +kernel)
  have hS : va_S (fun q => B0 ≤ q) s.heap s.heap [] := va_S.rf
  have hl := lv_entry ([.ref (ad (60))]) (n := 3) (Nat.le_of_ble_eq_true rfl)
  rw [lg_entry_eq]
  generalize (lg_sl ([.ref (ad (60))]) ++ List.replicate (3 - (lg_sl ([.ref (ad (60))])).length) Slot.unset).toArray = ls at hl ⊢
  have hl : lv_has ls 3 [(0, .ref (ad (60)))] := hl
  have j_159 : ∀ (R9 : Int32 → xH → Prop) (hR9 : ∀ (v1 : Int32) (h : xH) (H : Heap) (locs : List Loc) (ls : Array Slot), R9 v1 h → XP ad D T h H → va_S (fun q => B0 ≤ q) s.heap H locs → lv_has ls 3 [(0, .ref (ad (60))), (1, .int (v1))] → W p l e (headSpec wsX6_passes ({ frames := 4, cells := 0, slots := 0, locals := 97 } : Room)).room s m ([.ref (ad (60))] : List Value).toArray below meth c H locs 0 0 (MQ below (XQ B0 ad D T xev K) ([.ref (ad (60))] : List Value).toArray s 0 0 (fun q => B0 ≤ q)) (F0 m 88 ls [])) (v1 : Int32) (h : xH) (H : Heap) (locs : List Loc) (ls : Array Slot), w_X6_passes_159 K R9 v1 h → XP ad D T h H → va_S (fun q => B0 ≤ q) s.heap H locs → lv_has ls 3 [(0, .ref (ad (60))), (1, .int (v1))] → W p l e (headSpec wsX6_passes ({ frames := 4, cells := 0, slots := 0, locals := 97 } : Room)).room s m ([.ref (ad (60))] : List Value).toArray below meth c H locs 0 0 (MQ below (XQ B0 ad D T xev K) ([.ref (ad (60))] : List Value).toArray s 0 0 (fun q => B0 ≤ q)) (F0 m 159 ls []) := by
    intro R9 hR9 v1 h H locs ls hw hP hS hl 
    unfold w_X6_passes_159 at hw
    obtain ⟨x28, ex28⟩ : ∃ z : Int32, z = v1 + 1 := ⟨_, rfl⟩
    have hw := hw x28 ex28
    refine lv_iinc (v := x28) (lv' := [(1, .int (x28)), (0, .ref (ad (60)))]) hx hb dX6_passes_159 hl (k := 1) rfl (by rw [ex28]; rfl) (by decide) rfl (fun ls hl => ?_)
    refine lv_goto (tgt := 88) hx hb dX6_passes_162 (by decide) ?_
    exact hR9 (x28) _ _ _ _ hw hP hS (lv_sub hl [1, 0] rfl)
  have j_115 : ∀ (R9 : Int32 → xH → Prop) (hR9 : ∀ (v1 : Int32) (h : xH) (H : Heap) (locs : List Loc) (ls : Array Slot), R9 v1 h → XP ad D T h H → va_S (fun q => B0 ≤ q) s.heap H locs → lv_has ls 3 [(0, .ref (ad (60))), (1, .int (v1))] → W p l e (headSpec wsX6_passes ({ frames := 4, cells := 0, slots := 0, locals := 97 } : Room)).room s m ([.ref (ad (60))] : List Value).toArray below meth c H locs 0 0 (MQ below (XQ B0 ad D T xev K) ([.ref (ad (60))] : List Value).toArray s 0 0 (fun q => B0 ≤ q)) (F0 m 88 ls [])) (v1 : Int32) (s0 : Int32) (h : xH) (H : Heap) (locs : List Loc) (ls : Array Slot), w_X6_passes_115 K R9 v1 s0 h → XP ad D T h H → va_S (fun q => B0 ≤ q) s.heap H locs → lv_has ls 3 [(0, .ref (ad (60))), (1, .int (v1))] → W p l e (headSpec wsX6_passes ({ frames := 4, cells := 0, slots := 0, locals := 97 } : Room)).room s m ([.ref (ad (60))] : List Value).toArray below meth c H locs 0 0 (MQ below (XQ B0 ad D T xev K) ([.ref (ad (60))] : List Value).toArray s 0 0 (fun q => B0 ≤ q)) (F0 m 115 ls [.int (s0)]) := by
    intro R9 hR9 v1 s0 h H locs ls hw hP hS hl 
    unfold w_X6_passes_115 at hw
    refine lv_istore_n (lv' := [(2, .int (s0)), (0, .ref (ad (60))), (1, .int (v1))]) hx hb dX6_passes_115 rfl hl (by decide) rfl (fun ls hl => ?_)
    refine lv_iload_n hx hb dX6_passes_116 rfl (lv_at hl 0 rfl) ?_
    refine lv_if_eq (tgt := 159) hx hb dX6_passes_117 (by decide) (fun c21 => ?_) (fun c21 => ?_)
    · have hw := hw.1 c21
      exact j_159 _ (hR9) (v1) _ _ _ _ hw hP hS (lv_sub hl [1, 2] rfl)
    · have hw := hw.2 c21
      refine lv_aload_n hx hb dX6_passes_120 rfl (lv_at hl 1 rfl) ?_
      refine xg_get (C := RX6) (TC := TX6) (N := 34) hx hb hts iX6 hown hK hP xs60 rfl 1 (by decide) f_112 (fun _ h9 => h9) rfl dX6_passes_121 ?_
      refine lv_aload_n hx hb dX6_passes_124 rfl (lv_at hl 1 rfl) ?_
      refine xg_getr (C := RX6) (TC := TX6) (N := 34) hx hb hts iX6 hown hK hP xs60 rfl 23 (by decide) f_75 (fun _ h9 => h9) rfl dX6_passes_125 ?_
      refine lv_sipush (v := 400) hx hb dX6_passes_128 (by decide) ?_
      refine lv_iload_n hx hb dX6_passes_131 rfl (lv_at hl 2 rfl) ?_
      refine lv_imul hx hb dX6_passes_132 ?_
      refine lv_aload_n hx hb dX6_passes_133 rfl (lv_at hl 1 rfl) ?_
      refine xg_getr (C := RX6) (TC := TX6) (N := 34) hx hb hts iX6 hown hK hP xs60 rfl 21 (by decide) f_69 (fun _ h9 => h9) rfl dX6_passes_134 ?_
      refine lv_bipush (v := 7) hx hb dX6_passes_137 (by decide) ?_
      refine lv_iload_n hx hb dX6_passes_139 rfl (lv_at hl 2 rfl) ?_
      refine lv_imul hx hb dX6_passes_140 ?_
      obtain ⟨hi22, hw⟩ := hw
      refine xg_iald hx hb hK hP xs81 hi22 dX6_passes_141 ?_
      refine lv_iadd hx hb dX6_passes_142 ?_
      obtain ⟨hi23, hw⟩ := hw
      refine xg_iald hx hb hK hP xs83 hi23 dX6_passes_143 ?_
      refine lv_isub hx hb dX6_passes_144 ?_
      refine lv_aload_n hx hb dX6_passes_145 rfl (lv_at hl 1 rfl) ?_
      refine xg_getr (C := RX6) (TC := TX6) (N := 34) hx hb hts iX6 hown hK hP xs60 rfl 16 (by decide) f_54 (fun _ h9 => h9) rfl dX6_passes_146 ?_
      refine lv_iload_n hx hb dX6_passes_149 rfl (lv_at hl 2 rfl) ?_
      obtain ⟨hi24, hw⟩ := hw
      refine xg_iald hx hb hK hP xs76 hi24 dX6_passes_150 ?_
      refine lv_icmp_lt (tgt := 159) hx hb dX6_passes_151 (by decide) (fun c25 => ?_) (fun c25 => ?_)
      · have hw := hw.1 c25
        exact j_159 _ (hR9) (v1) _ _ _ _ hw hP hS (lv_sub hl [1, 2] rfl)
      · have hw := hw.2 c25
        refine lv_aload_n hx hb dX6_passes_154 rfl (lv_at hl 1 rfl) ?_
        refine lv_iload_n hx hb dX6_passes_155 rfl (lv_at hl 2 rfl) ?_
        refine xg_callv (va_runV (As := [.int (v1)]) (rest := []) ⟨hx, hb, hml, hown, hts⟩ (c_X6_rotates l hl9 hA v1 hw) (cwV 1 hts gX6_passes_X6_rotates rfl rfl rfl (by decide +kernel) ⟨Nat.le_of_ble_eq_true rfl, Nat.le_of_ble_eq_true rfl⟩) (xg_preV hB0 hP hK hN hS xs60 rfl) rfl rfl hl.1 rfl (lv_room (Nat.le_of_ble_eq_true rfl)) dX6_passes_156 ⟨Nat.le_of_ble_eq_true rfl, Nat.le_of_ble_eq_true rfl⟩) hS (fun _ h27 H locs hw hP hS => ?_)
        exact j_159 _ (hR9) (v1) _ _ _ _ hw hP hS (lv_sub hl [1, 2] rfl)
  have j_114 : ∀ (R9 : Int32 → xH → Prop) (hR9 : ∀ (v1 : Int32) (h : xH) (H : Heap) (locs : List Loc) (ls : Array Slot), R9 v1 h → XP ad D T h H → va_S (fun q => B0 ≤ q) s.heap H locs → lv_has ls 3 [(0, .ref (ad (60))), (1, .int (v1))] → W p l e (headSpec wsX6_passes ({ frames := 4, cells := 0, slots := 0, locals := 97 } : Room)).room s m ([.ref (ad (60))] : List Value).toArray below meth c H locs 0 0 (MQ below (XQ B0 ad D T xev K) ([.ref (ad (60))] : List Value).toArray s 0 0 (fun q => B0 ≤ q)) (F0 m 88 ls [])) (v1 : Int32) (h : xH) (H : Heap) (locs : List Loc) (ls : Array Slot), w_X6_passes_114 K R9 v1 h → XP ad D T h H → va_S (fun q => B0 ≤ q) s.heap H locs → lv_has ls 3 [(0, .ref (ad (60))), (1, .int (v1))] → W p l e (headSpec wsX6_passes ({ frames := 4, cells := 0, slots := 0, locals := 97 } : Room)).room s m ([.ref (ad (60))] : List Value).toArray below meth c H locs 0 0 (MQ below (XQ B0 ad D T xev K) ([.ref (ad (60))] : List Value).toArray s 0 0 (fun q => B0 ≤ q)) (F0 m 114 ls []) := by
    intro R9 hR9 v1 h H locs ls hw hP hS hl 
    unfold w_X6_passes_114 at hw
    refine lv_iconst (v := 0) hx hb dX6_passes_114 (by decide) ?_
    exact j_115 _ (hR9) (v1) (0) _ _ _ _ hw hP hS (lv_sub hl [0, 1] rfl)
  have j_88 : ∀ (n : Nat) (v1 : Int32) (h : xH) (H : Heap) (locs : List Loc) (ls : Array Slot), w_X6_passes_88 K n v1 h → XP ad D T h H → va_S (fun q => B0 ≤ q) s.heap H locs → lv_has ls 3 [(0, .ref (ad (60))), (1, .int (v1))] → W p l e (headSpec wsX6_passes ({ frames := 4, cells := 0, slots := 0, locals := 97 } : Room)).room s m ([.ref (ad (60))] : List Value).toArray below meth c H locs 0 0 (MQ below (XQ B0 ad D T xev K) ([.ref (ad (60))] : List Value).toArray s 0 0 (fun q => B0 ≤ q)) (F0 m 88 ls []) := by
    intro n
    induction n with
    | zero => intro v1 h H locs ls hw; exact hw.elim
    | succ n9 ih =>
      intro v1 h H locs ls hw hP hS hl 
      rw [w_X6_passes_88_s] at hw
      refine lv_iload_n hx hb dX6_passes_88 rfl (lv_at hl 1 rfl) ?_
      refine lv_iconst (v := 4) hx hb dX6_passes_89 (by decide) ?_
      refine lv_icmp_ge (tgt := 165) hx hb dX6_passes_90 (by decide) (fun c15 => ?_) (fun c15 => ?_)
      · have hw := hw.1 c15
        exact xg_vrets hx hb hr hlocks hB0 hP hK hN hS dX6_passes_165 (by decide) (by decide) hw
      · have hw := hw.2 c15
        refine lv_aload_n hx hb dX6_passes_93 rfl (lv_at hl 0 rfl) ?_
        refine xg_getr (C := RX6) (TC := TX6) (N := 34) hx hb hts iX6 hown hK hP xs60 rfl 16 (by decide) f_54 (fun _ h9 => h9) rfl dX6_passes_94 ?_
        refine lv_iload_n hx hb dX6_passes_97 rfl (lv_at hl 1 rfl) ?_
        obtain ⟨hi16, hw⟩ := hw
        refine xg_iald hx hb hK hP xs76 hi16 dX6_passes_98 ?_
        refine lv_if_le (tgt := 114) hx hb dX6_passes_99 (by decide) (fun c17 => ?_) (fun c17 => ?_)
        · have hw := hw.1 c17
          exact j_114 _ (ih) (v1) _ _ _ _ hw hP hS (lv_sub hl [0, 1] rfl)
        · have hw := hw.2 c17
          refine lv_aload_n hx hb dX6_passes_102 rfl (lv_at hl 0 rfl) ?_
          refine lv_iload_n hx hb dX6_passes_103 rfl (lv_at hl 1 rfl) ?_
          refine xg_calli (va_runV (As := [.int (v1)]) (rest := []) ⟨hx, hb, hml, hown, hts⟩ (c_X6_linesOf l hl9 hA v1 hw) (cwV 1 hts gX6_passes_X6_linesOf rfl rfl rfl (by decide +kernel) ⟨Nat.le_of_ble_eq_true rfl, Nat.le_of_ble_eq_true rfl⟩) (xg_preV hB0 hP hK hN hS xs60 rfl) rfl rfl hl.1 rfl (lv_room (Nat.le_of_ble_eq_true rfl)) dX6_passes_104 ⟨Nat.le_of_ble_eq_true rfl, Nat.le_of_ble_eq_true rfl⟩) hS (fun r18 h19 H locs hw hP hS => ?_)
          refine lv_if_le (tgt := 114) hx hb dX6_passes_107 (by decide) (fun c20 => ?_) (fun c20 => ?_)
          · have hw := hw.1 c20
            exact j_114 _ (ih) (v1) _ _ _ _ hw hP hS (lv_sub hl [0, 1] rfl)
          · have hw := hw.2 c20
            refine lv_iconst (v := 1) hx hb dX6_passes_110 (by decide) ?_
            refine lv_goto (tgt := 115) hx hb dX6_passes_111 (by decide) ?_
            exact j_115 _ (ih) (v1) (1) _ _ _ _ hw hP hS (lv_sub hl [0, 1] rfl)
  have j_68 : ∀ (n : Nat) (v1 : Int32) (h : xH) (H : Heap) (locs : List Loc) (ls : Array Slot), w_X6_passes_68 K n v1 h → XP ad D T h H → va_S (fun q => B0 ≤ q) s.heap H locs → lv_has ls 3 [(0, .ref (ad (60))), (1, .int (v1))] → W p l e (headSpec wsX6_passes ({ frames := 4, cells := 0, slots := 0, locals := 97 } : Room)).room s m ([.ref (ad (60))] : List Value).toArray below meth c H locs 0 0 (MQ below (XQ B0 ad D T xev K) ([.ref (ad (60))] : List Value).toArray s 0 0 (fun q => B0 ≤ q)) (F0 m 68 ls []) := by
    intro n
    induction n with
    | zero => intro v1 h H locs ls hw; exact hw.elim
    | succ n9 ih =>
      intro v1 h H locs ls hw hP hS hl 
      rw [w_X6_passes_68_s] at hw
      refine lv_iload_n hx hb dX6_passes_68 rfl (lv_at hl 1 rfl) ?_
      refine lv_iconst (v := (-1)) hx hb dX6_passes_69 (by decide) ?_
      refine lv_icmp_eq (tgt := 86) hx hb dX6_passes_70 (by decide) (fun c10 => ?_) (fun c10 => ?_)
      · have hw := hw.1 c10
        refine lv_iconst (v := 0) hx hb dX6_passes_86 (by decide) ?_
        refine lv_istore_n (lv' := [(1, .int (0)), (0, .ref (ad (60)))]) hx hb dX6_passes_87 rfl hl (by decide) rfl (fun ls hl => ?_)
        obtain ⟨n9, hw⟩ := hw
        exact j_88 n9 (0) _ _ _ _ hw hP hS (lv_sub hl [1, 0] rfl)
      · have hw := hw.2 c10
        refine lv_aload_n hx hb dX6_passes_73 rfl (lv_at hl 0 rfl) ?_
        refine lv_iload_n hx hb dX6_passes_74 rfl (lv_at hl 1 rfl) ?_
        refine xg_callv (va_runV (As := [.int (v1)]) (rest := []) ⟨hx, hb, hml, hown, hts⟩ (c_X6_tellsRepeats l hl9 hA v1 hw) (cwV 1 hts gX6_passes_X6_tellsRepeats rfl rfl rfl (by decide +kernel) ⟨Nat.le_of_ble_eq_true rfl, Nat.le_of_ble_eq_true rfl⟩) (xg_preV hB0 hP hK hN hS xs60 rfl) rfl rfl hl.1 rfl (lv_room (Nat.le_of_ble_eq_true rfl)) dX6_passes_75 ⟨Nat.le_of_ble_eq_true rfl, Nat.le_of_ble_eq_true rfl⟩) hS (fun _ h12 H locs hw hP hS => ?_)
        refine lv_aload_n hx hb dX6_passes_78 rfl (lv_at hl 0 rfl) ?_
        refine xg_calli (va_runV (As := []) (rest := []) ⟨hx, hb, hml, hown, hts⟩ (c_X6_due l hl9 hA hw) (cwV 0 hts gX6_passes_X6_due rfl rfl rfl (by decide +kernel) ⟨Nat.le_of_ble_eq_true rfl, Nat.le_of_ble_eq_true rfl⟩) (xg_preV hB0 hP hK hN hS xs60 rfl) rfl rfl hl.1 rfl (lv_room (Nat.le_of_ble_eq_true rfl)) dX6_passes_79 ⟨Nat.le_of_ble_eq_true rfl, Nat.le_of_ble_eq_true rfl⟩) hS (fun r13 h14 H locs hw hP hS => ?_)
        refine lv_istore_n (lv' := [(1, .int (r13)), (0, .ref (ad (60)))]) hx hb dX6_passes_82 rfl hl (by decide) rfl (fun ls hl => ?_)
        refine lv_goto (tgt := 68) hx hb dX6_passes_83 (by decide) ?_
        exact ih (r13) _ _ _ _ hw hP hS (lv_sub hl [1, 0] rfl)
  have j_55 : ∀ (R9 : Int32 → xH → Prop) (hR9 : ∀ (v1 : Int32) (h : xH) (H : Heap) (locs : List Loc) (ls : Array Slot), R9 v1 h → XP ad D T h H → va_S (fun q => B0 ≤ q) s.heap H locs → lv_has ls 3 [(0, .ref (ad (60))), (1, .int (v1))] → W p l e (headSpec wsX6_passes ({ frames := 4, cells := 0, slots := 0, locals := 97 } : Room)).room s m ([.ref (ad (60))] : List Value).toArray below meth c H locs 0 0 (MQ below (XQ B0 ad D T xev K) ([.ref (ad (60))] : List Value).toArray s 0 0 (fun q => B0 ≤ q)) (F0 m 12 ls [])) (v1 : Int32) (s1 : Int32) (s2 : Int32) (s3 : Int32) (h : xH) (H : Heap) (locs : List Loc) (ls : Array Slot), w_X6_passes_55 K R9 v1 s1 s2 s3 h → XP ad D T h H → va_S (fun q => B0 ≤ q) s.heap H locs → lv_has ls 3 [(0, .ref (ad (60))), (1, .int (v1))] → W p l e (headSpec wsX6_passes ({ frames := 4, cells := 0, slots := 0, locals := 97 } : Room)).room s m ([.ref (ad (60))] : List Value).toArray below meth c H locs 0 0 (MQ below (XQ B0 ad D T xev K) ([.ref (ad (60))] : List Value).toArray s 0 0 (fun q => B0 ≤ q)) (F0 m 55 ls [.int (s3), .int (s2), .int (s1), .ref (ad (65))]) := by
    intro R9 hR9 v1 s1 s2 s3 h H locs ls hw hP hS hl 
    unfold w_X6_passes_55 at hw
    refine lv_iadd hx hb dX6_passes_55 ?_
    obtain ⟨hi29, hw⟩ := hw
    refine xg_iast hx hb hK hP hA hS xs65 hi29 dX6_passes_56 (fun H locs h30 eh30 hP hS => ?_)
    have hw := hw h30 eh30
    obtain ⟨x31, ex31⟩ : ∃ z : Int32, z = v1 + 1 := ⟨_, rfl⟩
    have hw := hw x31 ex31
    refine lv_iinc (v := x31) (lv' := [(1, .int (x31)), (0, .ref (ad (60)))]) hx hb dX6_passes_57 hl (k := 1) rfl (by rw [ex31]; rfl) (by decide) rfl (fun ls hl => ?_)
    refine lv_goto (tgt := 12) hx hb dX6_passes_60 (by decide) ?_
    exact hR9 (x31) _ _ _ _ hw hP hS (lv_sub hl [1, 0] rfl)
  have j_54 : ∀ (R9 : Int32 → xH → Prop) (hR9 : ∀ (v1 : Int32) (h : xH) (H : Heap) (locs : List Loc) (ls : Array Slot), R9 v1 h → XP ad D T h H → va_S (fun q => B0 ≤ q) s.heap H locs → lv_has ls 3 [(0, .ref (ad (60))), (1, .int (v1))] → W p l e (headSpec wsX6_passes ({ frames := 4, cells := 0, slots := 0, locals := 97 } : Room)).room s m ([.ref (ad (60))] : List Value).toArray below meth c H locs 0 0 (MQ below (XQ B0 ad D T xev K) ([.ref (ad (60))] : List Value).toArray s 0 0 (fun q => B0 ≤ q)) (F0 m 12 ls [])) (v1 : Int32) (s1 : Int32) (s2 : Int32) (h : xH) (H : Heap) (locs : List Loc) (ls : Array Slot), w_X6_passes_54 K R9 v1 s1 s2 h → XP ad D T h H → va_S (fun q => B0 ≤ q) s.heap H locs → lv_has ls 3 [(0, .ref (ad (60))), (1, .int (v1))] → W p l e (headSpec wsX6_passes ({ frames := 4, cells := 0, slots := 0, locals := 97 } : Room)).room s m ([.ref (ad (60))] : List Value).toArray below meth c H locs 0 0 (MQ below (XQ B0 ad D T xev K) ([.ref (ad (60))] : List Value).toArray s 0 0 (fun q => B0 ≤ q)) (F0 m 54 ls [.int (s2), .int (s1), .ref (ad (65))]) := by
    intro R9 hR9 v1 s1 s2 h H locs ls hw hP hS hl 
    unfold w_X6_passes_54 at hw
    refine lv_iconst (v := 0) hx hb dX6_passes_54 (by decide) ?_
    exact j_55 _ (hR9) (v1) (s1) (s2) (0) _ _ _ _ hw hP hS (lv_sub hl [0, 1] rfl)
  have j_12 : ∀ (n : Nat) (v1 : Int32) (h : xH) (H : Heap) (locs : List Loc) (ls : Array Slot), w_X6_passes_12 K n v1 h → XP ad D T h H → va_S (fun q => B0 ≤ q) s.heap H locs → lv_has ls 3 [(0, .ref (ad (60))), (1, .int (v1))] → W p l e (headSpec wsX6_passes ({ frames := 4, cells := 0, slots := 0, locals := 97 } : Room)).room s m ([.ref (ad (60))] : List Value).toArray below meth c H locs 0 0 (MQ below (XQ B0 ad D T xev K) ([.ref (ad (60))] : List Value).toArray s 0 0 (fun q => B0 ≤ q)) (F0 m 12 ls []) := by
    intro n
    induction n with
    | zero => intro v1 h H locs ls hw; exact hw.elim
    | succ n9 ih =>
      intro v1 h H locs ls hw hP hS hl 
      rw [w_X6_passes_12_s] at hw
      refine lv_iload_n hx hb dX6_passes_12 rfl (lv_at hl 1 rfl) ?_
      refine lv_bipush (v := 6) hx hb dX6_passes_13 (by decide) ?_
      refine lv_icmp_ge (tgt := 63) hx hb dX6_passes_15 (by decide) (fun c2 => ?_) (fun c2 => ?_)
      · have hw := hw.1 c2
        refine lv_aload_n hx hb dX6_passes_63 rfl (lv_at hl 0 rfl) ?_
        refine xg_calli (va_runV (As := []) (rest := []) ⟨hx, hb, hml, hown, hts⟩ (c_X6_due l hl9 hA hw) (cwV 0 hts gX6_passes_X6_due rfl rfl rfl (by decide +kernel) ⟨Nat.le_of_ble_eq_true rfl, Nat.le_of_ble_eq_true rfl⟩) (xg_preV hB0 hP hK hN hS xs60 rfl) rfl rfl hl.1 rfl (lv_room (Nat.le_of_ble_eq_true rfl)) dX6_passes_64 ⟨Nat.le_of_ble_eq_true rfl, Nat.le_of_ble_eq_true rfl⟩) hS (fun r3 h4 H locs hw hP hS => ?_)
        refine lv_istore_n (lv' := [(1, .int (r3)), (0, .ref (ad (60)))]) hx hb dX6_passes_67 rfl hl (by decide) rfl (fun ls hl => ?_)
        obtain ⟨n9, hw⟩ := hw
        exact j_68 n9 (r3) _ _ _ _ hw hP hS (lv_sub hl [1, 0] rfl)
      · have hw := hw.2 c2
        refine lv_aload_n hx hb dX6_passes_18 rfl (lv_at hl 0 rfl) ?_
        refine xg_getr (C := RX6) (TC := TX6) (N := 34) hx hb hts iX6 hown hK hP xs60 rfl 5 (by decide) f_19 (fun _ h9 => h9) rfl dX6_passes_19 ?_
        refine lv_iload_n hx hb dX6_passes_22 rfl (lv_at hl 1 rfl) ?_
        refine lv_dup2_11 hx hb dX6_passes_23 rfl rfl ?_
        obtain ⟨hi5, hw⟩ := hw
        refine xg_iald hx hb hK hP xs65 hi5 dX6_passes_24 ?_
        refine lv_aload_n hx hb dX6_passes_25 rfl (lv_at hl 0 rfl) ?_
        refine xg_get (C := RX6) (TC := TX6) (N := 34) hx hb hts iX6 hown hK hP xs60 rfl 1 (by decide) f_112 (fun _ h9 => h9) rfl dX6_passes_26 ?_
        refine lv_aload_n hx hb dX6_passes_29 rfl (lv_at hl 0 rfl) ?_
        refine xg_get (C := RX6) (TC := TX6) (N := 34) hx hb hts iX6 hown hK hP xs60 rfl 3 (by decide) f_13 (fun _ h9 => h9) rfl dX6_passes_30 ?_
        obtain ⟨hz6, hw⟩ := hw
        refine lv_irem hx hb dX6_passes_33 hz6 ?_
        refine lv_if_ne (tgt := 54) hx hb dX6_passes_34 (by decide) (fun c7 => ?_) (fun c7 => ?_)
        · have hw := hw.2 c7
          exact j_54 _ (ih) (v1) (v1) ((h 65 v1.toNatClampNeg)) _ _ _ _ hw hP hS (lv_sub hl [0, 1] rfl)
        · have hw := hw.1 c7
          refine lv_aload_n hx hb dX6_passes_37 rfl (lv_at hl 0 rfl) ?_
          refine xg_getr (C := RX6) (TC := TX6) (N := 34) hx hb hts iX6 hown hK hP xs60 rfl 5 (by decide) f_19 (fun _ h9 => h9) rfl dX6_passes_38 ?_
          refine lv_iload_n hx hb dX6_passes_41 rfl (lv_at hl 1 rfl) ?_
          obtain ⟨hi8, hw⟩ := hw
          refine xg_iald hx hb hK hP xs65 hi8 dX6_passes_42 ?_
          refine lv_aload_n hx hb dX6_passes_43 rfl (lv_at hl 0 rfl) ?_
          refine xg_get (C := RX6) (TC := TX6) (N := 34) hx hb hts iX6 hown hK hP xs60 rfl 2 (by decide) f_7 (fun _ h9 => h9) rfl dX6_passes_44 ?_
          refine lv_icmp_ge (tgt := 54) hx hb dX6_passes_47 (by decide) (fun c9 => ?_) (fun c9 => ?_)
          · have hw := hw.1 c9
            exact j_54 _ (ih) (v1) (v1) ((h 65 v1.toNatClampNeg)) _ _ _ _ hw hP hS (lv_sub hl [0, 1] rfl)
          · have hw := hw.2 c9
            refine lv_iconst (v := 1) hx hb dX6_passes_50 (by decide) ?_
            refine lv_goto (tgt := 55) hx hb dX6_passes_51 (by decide) ?_
            exact j_55 _ (ih) (v1) (v1) ((h 65 v1.toNatClampNeg)) (1) _ _ _ _ hw hP hS (lv_sub hl [0, 1] rfl)
  unfold w_X6_passes at hw
  refine lv_aload_n hx hb dX6_passes_0 rfl (lv_at hl 0 rfl) ?_
  refine lv_dup hx hb dX6_passes_1 rfl ?_
  refine xg_get (C := RX6) (TC := TX6) (N := 34) hx hb hts iX6 hown hK hP xs60 rfl 1 (by decide) f_112 (fun _ h9 => h9) rfl dX6_passes_2 ?_
  refine lv_iconst (v := 1) hx hb dX6_passes_5 (by decide) ?_
  refine lv_iadd hx hb dX6_passes_6 ?_
  refine xg_put (C := RX6) (TC := TX6) (N := 34) hx hb hts iX6 tyX6 tyX6_ok nmX6 hown hK hP hA hS xs60 rfl 1 (by decide) f_112 (fun _ h9 => h9) rfl rfl (ty := .int) (by decide +kernel) rfl rfl dX6_passes_7 (fun H locs h1 eh1 hP hS => ?_)
  have hw := hw h1 eh1
  refine lv_iconst (v := 0) hx hb dX6_passes_10 (by decide) ?_
  refine lv_istore_n (lv' := [(1, .int (0)), (0, .ref (ad (60)))]) hx hb dX6_passes_11 rfl hl (by decide) rfl (fun ls hl => ?_)
  obtain ⟨n9, hw⟩ := hw
  exact j_12 n9 (0) _ _ _ _ hw hP hS (lv_sub hl [1, 0] rfl)
set_option maxHeartbeats 4000000 in
set_option maxRecDepth 100000 in
theorem c_X6_pass (l : Launch) (hl9 : l.stackTraces = false) {B0 : Nat} {ad : Nat → Nat} {D : va_G} {T : Nat → ClassId} (hA : XA B0 ad) (p0 : Int32) {h : xH} {K : Int32 → xH → Prop} (hw : w_X6_pass p0 h K) : XM l yX6_pass wsX6_pass ({ frames := 5, cells := 0, slots := 0, locals := 119 } : Room) B0 ad D T h [.ref (ad (60)), .int (p0)] xei K 0 0 := by
  unfold XM
  refine Met.ofW (cc := cX6_pass) (maxL := 3) (ret := (some .int)) (by decide) rfl ?_
  intro p e s m args below meth c s₁ B hml hv
  obtain ⟨rfl, hB0, hP, hK, hN⟩ := hv
  have hx := B.exec
  have hb := B.bytes
  have hr := B.returns
  have hts := atoms_spec (ws := wsX6_pass) B.pre
  have hown : s.vm.findClass RX6 = some m.cls := findClass_of_methodNamed B.named
  have hlocks := B.notSynchronized
  have iX6 : ∀ w ∈ u_ws RX6 TX6 34, w ∈ wsX6_pass := by decide +kernel
  have f_101 := hts (.fieldLink RX6 101 "LogSpoolerModel" "rotations" "I") (by decide +kernel)
  have hS : va_S (fun q => B0 ≤ q) s.heap s.heap [] := va_S.rf
  have hl := lv_entry ([.ref (ad (60)), .int (p0)]) (n := 3) (Nat.le_of_ble_eq_true rfl)
  rw [lg_entry_eq]
  generalize (lg_sl ([.ref (ad (60)), .int (p0)]) ++ List.replicate (3 - (lg_sl ([.ref (ad (60)), .int (p0)])).length) Slot.unset).toArray = ls at hl ⊢
  have hl : lv_has ls 3 [(0, .ref (ad (60))), (1, .int (p0))] := hl
  have j_31 : ∀ (n : Nat) (v2 : Int32) (h : xH) (H : Heap) (locs : List Loc) (ls : Array Slot), w_X6_pass_31 p0 K n v2 h → XP ad D T h H → va_S (fun q => B0 ≤ q) s.heap H locs → lv_has ls 3 [(0, .ref (ad (60))), (1, .int (p0)), (2, .int (v2))] → W p l e (headSpec wsX6_pass ({ frames := 5, cells := 0, slots := 0, locals := 119 } : Room)).room s m ([.ref (ad (60)), .int (p0)] : List Value).toArray below meth c H locs 0 0 (MQ below (XQ B0 ad D T xei K) ([.ref (ad (60)), .int (p0)] : List Value).toArray s 0 0 (fun q => B0 ≤ q)) (F0 m 31 ls []) := by
    intro n
    induction n with
    | zero => intro v2 h H locs ls hw; exact hw.elim
    | succ n9 ih =>
      intro v2 h H locs ls hw hP hS hl 
      rw [w_X6_pass_31_s] at hw
      refine lv_iload_n hx hb dX6_pass_31 rfl (lv_at hl 2 rfl) ?_
      refine lv_iload_n hx hb dX6_pass_32 rfl (lv_at hl 1 rfl) ?_
      refine lv_icmp_ge (tgt := 46) hx hb dX6_pass_33 (by decide) (fun c8 => ?_) (fun c8 => ?_)
      · have hw := hw.1 c8
        refine lv_aload_n hx hb dX6_pass_46 rfl (lv_at hl 0 rfl) ?_
        refine xg_get (C := RX6) (TC := TX6) (N := 34) hx hb hts iX6 hown hK hP xs60 rfl 30 (by decide) f_101 (fun _ h9 => h9) rfl dX6_pass_47 ?_
        exact xg_irets hx hb hr rfl hlocks hB0 hP hK hN hS dX6_pass_50 (by decide) (by decide) hw
      · have hw := hw.2 c8
        refine lv_aload_n hx hb dX6_pass_36 rfl (lv_at hl 0 rfl) ?_
        refine xg_callv (va_runV (As := []) (rest := []) ⟨hx, hb, hml, hown, hts⟩ (c_X6_passes l hl9 hA hw) (cwV 0 hts gX6_pass_X6_passes rfl rfl rfl (by decide +kernel) ⟨Nat.le_of_ble_eq_true rfl, Nat.le_of_ble_eq_true rfl⟩) (xg_preV hB0 hP hK hN hS xs60 rfl) rfl rfl hl.1 rfl (lv_room (Nat.le_of_ble_eq_true rfl)) dX6_pass_37 ⟨Nat.le_of_ble_eq_true rfl, Nat.le_of_ble_eq_true rfl⟩) hS (fun _ h10 H locs hw hP hS => ?_)
        obtain ⟨x11, ex11⟩ : ∃ z : Int32, z = v2 + 1 := ⟨_, rfl⟩
        have hw := hw x11 ex11
        refine lv_iinc (v := x11) (lv' := [(2, .int (x11)), (0, .ref (ad (60))), (1, .int (p0))]) hx hb dX6_pass_40 hl (k := 2) rfl (by rw [ex11]; rfl) (by decide) rfl (fun ls hl => ?_)
        refine lv_goto (tgt := 31) hx hb dX6_pass_43 (by decide) ?_
        exact ih (x11) _ _ _ _ hw hP hS (lv_sub hl [1, 2, 0] rfl)
  have j_16 : ∀ (s0 : Nat) (s1 : Int32) (h : xH) (H : Heap) (locs : List Loc) (ls : Array Slot), w_X6_pass_16 p0 K s0 s1 h → XP ad D T h H → va_S (fun q => B0 ≤ q) s.heap H locs → lv_has ls 3 [(0, .ref (ad (60))), (1, .int (p0))] → W p l e (headSpec wsX6_pass ({ frames := 5, cells := 0, slots := 0, locals := 119 } : Room)).room s m ([.ref (ad (60)), .int (p0)] : List Value).toArray below meth c H locs 0 0 (MQ below (XQ B0 ad D T xei K) ([.ref (ad (60)), .int (p0)] : List Value).toArray s 0 0 (fun q => B0 ≤ q)) (F0 m 16 ls [.int (s1), .ref (ad (60))]) := by
    intro s0 s1 h H locs ls hw hP hS hl 
    unfold w_X6_pass_16 at hw
    refine xg_calli (va_runV (As := [.int (s1)]) (rest := []) ⟨hx, hb, hml, hown, hts⟩ (c_X6_holds l hl9 hA s1 hw) (cwV 1 hts gX6_pass_X6_holds rfl rfl rfl (by decide +kernel) ⟨Nat.le_of_ble_eq_true rfl, Nat.le_of_ble_eq_true rfl⟩) (xg_preV hB0 hP hK hN hS xs60 rfl) rfl rfl hl.1 rfl (lv_room (Nat.le_of_ble_eq_true rfl)) dX6_pass_16 ⟨Nat.le_of_ble_eq_true rfl, Nat.le_of_ble_eq_true rfl⟩) hS (fun r4 h5 H locs hw hP hS => ?_)
    refine lv_if_ne (tgt := 24) hx hb dX6_pass_19 (by decide) (fun c6 => ?_) (fun c6 => ?_)
    · have hw := hw.2 c6
      refine lv_aload_n hx hb dX6_pass_24 rfl (lv_at hl 0 rfl) ?_
      refine lv_iconst (v := 0) hx hb dX6_pass_25 (by decide) ?_
      refine xg_put (C := RX6) (TC := TX6) (N := 34) hx hb hts iX6 tyX6 tyX6_ok nmX6 hown hK hP hA hS xs60 rfl 30 (by decide) f_101 (fun _ h9 => h9) rfl rfl (ty := .int) (by decide +kernel) rfl rfl dX6_pass_26 (fun H locs h7 eh7 hP hS => ?_)
      have hw := hw h7 eh7
      refine lv_iconst (v := 0) hx hb dX6_pass_29 (by decide) ?_
      refine lv_istore_n (lv' := [(2, .int (0)), (0, .ref (ad (60))), (1, .int (p0))]) hx hb dX6_pass_30 rfl hl (by decide) rfl (fun ls hl => ?_)
      obtain ⟨n9, hw⟩ := hw
      exact j_31 n9 (0) _ _ _ _ hw hP hS (lv_sub hl [1, 2, 0] rfl)
    · have hw := hw.1 c6
      refine lv_iconst (v := 0) hx hb dX6_pass_22 (by decide) ?_
      exact xg_irets hx hb hr rfl hlocks hB0 hP hK hN hS dX6_pass_23 (by decide) (by decide) hw
  unfold w_X6_pass at hw
  refine lv_aload_n hx hb dX6_pass_0 rfl (lv_at hl 0 rfl) ?_
  refine lv_iload_n hx hb dX6_pass_1 rfl (lv_at hl 1 rfl) ?_
  refine lv_iconst (v := 1) hx hb dX6_pass_2 (by decide) ?_
  refine lv_bipush (v := 100) hx hb dX6_pass_3 (by decide) ?_
  refine xg_calli (va_runS (As := [.int (p0), .int (1), .int (100)]) (rest := [.ref (ad (60))]) ⟨hx, hb, hml, hown, hts⟩ (c_X6_isIn l hl9 hA p0 (1 : Int32) (100 : Int32) hw) (va_cwS 3 hts gX6_pass_X6_isIn rfl rfl rfl (by decide +kernel) ⟨Nat.le_of_ble_eq_true rfl, Nat.le_of_ble_eq_true rfl⟩) (xg_preS hB0 hP hK hN hS) rfl rfl hl.1 rfl (lv_room (Nat.le_of_ble_eq_true rfl)) dX6_pass_5 ⟨Nat.le_of_ble_eq_true rfl, Nat.le_of_ble_eq_true rfl⟩) hS (fun r1 h2 H locs hw hP hS => ?_)
  refine lv_if_eq (tgt := 15) hx hb dX6_pass_8 (by decide) (fun c3 => ?_) (fun c3 => ?_)
  · have hw := hw.1 c3
    refine lv_iconst (v := 1) hx hb dX6_pass_15 (by decide) ?_
    exact j_16 (60) (1) _ _ _ _ hw hP hS (lv_sub hl [0, 1] rfl)
  · have hw := hw.2 c3
    refine lv_iconst (v := 0) hx hb dX6_pass_11 (by decide) ?_
    refine lv_goto (tgt := 16) hx hb dX6_pass_12 (by decide) ?_
    exact j_16 (60) (0) _ _ _ _ hw hP hS (lv_sub hl [0, 1] rfl)
set_option maxHeartbeats 4000000 in
set_option maxRecDepth 100000 in
theorem c_X6_rotate (l : Launch) (hl9 : l.stackTraces = false) {B0 : Nat} {ad : Nat → Nat} {D : va_G} {T : Nat → ClassId} (hA : XA B0 ad) (p0 : Int32) {h : xH} {K : Int32 → xH → Prop} (hw : w_X6_rotate p0 h K) : XM l yX6_rotate wsX6_rotate ({ frames := 2, cells := 0, slots := 0, locals := 42 } : Room) B0 ad D T h [.ref (ad (60)), .int (p0)] xei K 0 0 := by
  unfold XM
  refine Met.ofW (cc := cX6_rotate) (maxL := 3) (ret := (some .int)) (by decide) rfl ?_
  intro p e s m args below meth c s₁ B hml hv
  obtain ⟨rfl, hB0, hP, hK, hN⟩ := hv
  have hx := B.exec
  have hb := B.bytes
  have hr := B.returns
  have hts := atoms_spec (ws := wsX6_rotate) B.pre
  have hown : s.vm.findClass RX6 = some m.cls := findClass_of_methodNamed B.named
  have hlocks := B.notSynchronized
  have iX6 : ∀ w ∈ u_ws RX6 TX6 34, w ∈ wsX6_rotate := by decide +kernel
  have f_66 := hts (.fieldLink RX6 66 "LogSpoolerModel" "generations" "[I") (by decide +kernel)
  have hS : va_S (fun q => B0 ≤ q) s.heap s.heap [] := va_S.rf
  have hl := lv_entry ([.ref (ad (60)), .int (p0)]) (n := 3) (Nat.le_of_ble_eq_true rfl)
  rw [lg_entry_eq]
  generalize (lg_sl ([.ref (ad (60)), .int (p0)]) ++ List.replicate (3 - (lg_sl ([.ref (ad (60)), .int (p0)])).length) Slot.unset).toArray = ls at hl ⊢
  have hl : lv_has ls 3 [(0, .ref (ad (60))), (1, .int (p0))] := hl
  have j_27 : ∀ (s0 : Nat) (s1 : Int32) (h : xH) (H : Heap) (locs : List Loc) (ls : Array Slot), w_X6_rotate_27 p0 K s0 s1 h → XP ad D T h H → va_S (fun q => B0 ≤ q) s.heap H locs → lv_has ls 3 [(0, .ref (ad (60))), (1, .int (p0))] → W p l e (headSpec wsX6_rotate ({ frames := 2, cells := 0, slots := 0, locals := 42 } : Room)).room s m ([.ref (ad (60)), .int (p0)] : List Value).toArray below meth c H locs 0 0 (MQ below (XQ B0 ad D T xei K) ([.ref (ad (60)), .int (p0)] : List Value).toArray s 0 0 (fun q => B0 ≤ q)) (F0 m 27 ls [.int (s1), .ref (ad (60))]) := by
    intro s0 s1 h H locs ls hw hP hS hl 
    unfold w_X6_rotate_27 at hw
    refine xg_calli (va_runV (As := [.int (s1)]) (rest := []) ⟨hx, hb, hml, hown, hts⟩ (c_X6_holds l hl9 hA s1 hw) (cwV 1 hts gX6_rotate_X6_holds rfl rfl rfl (by decide +kernel) ⟨Nat.le_of_ble_eq_true rfl, Nat.le_of_ble_eq_true rfl⟩) (xg_preV hB0 hP hK hN hS xs60 rfl) rfl rfl hl.1 rfl (lv_room (Nat.le_of_ble_eq_true rfl)) dX6_rotate_27 ⟨Nat.le_of_ble_eq_true rfl, Nat.le_of_ble_eq_true rfl⟩) hS (fun r7 h8 H locs hw hP hS => ?_)
    refine lv_if_ne (tgt := 35) hx hb dX6_rotate_30 (by decide) (fun c9 => ?_) (fun c9 => ?_)
    · have hw := hw.2 c9
      refine lv_aload_n hx hb dX6_rotate_35 rfl (lv_at hl 0 rfl) ?_
      refine lv_iload_n hx hb dX6_rotate_36 rfl (lv_at hl 1 rfl) ?_
      refine xg_callv (va_runV (As := [.int (p0)]) (rest := []) ⟨hx, hb, hml, hown, hts⟩ (c_X6_rotates l hl9 hA p0 hw) (cwV 1 hts gX6_rotate_X6_rotates rfl rfl rfl (by decide +kernel) ⟨Nat.le_of_ble_eq_true rfl, Nat.le_of_ble_eq_true rfl⟩) (xg_preV hB0 hP hK hN hS xs60 rfl) rfl rfl hl.1 rfl (lv_room (Nat.le_of_ble_eq_true rfl)) dX6_rotate_37 ⟨Nat.le_of_ble_eq_true rfl, Nat.le_of_ble_eq_true rfl⟩) hS (fun _ h11 H locs hw hP hS => ?_)
      refine lv_aload_n hx hb dX6_rotate_40 rfl (lv_at hl 0 rfl) ?_
      refine xg_getr (C := RX6) (TC := TX6) (N := 34) hx hb hts iX6 hown hK hP xs60 rfl 20 (by decide) f_66 (fun _ h9 => h9) rfl dX6_rotate_41 ?_
      refine lv_iload_n hx hb dX6_rotate_44 rfl (lv_at hl 1 rfl) ?_
      obtain ⟨hi12, hw⟩ := hw
      refine xg_iald hx hb hK hP xs80 hi12 dX6_rotate_45 ?_
      exact xg_irets hx hb hr rfl hlocks hB0 hP hK hN hS dX6_rotate_46 (by decide) (by decide) hw
    · have hw := hw.1 c9
      refine lv_iconst (v := 0) hx hb dX6_rotate_33 (by decide) ?_
      exact xg_irets hx hb hr rfl hlocks hB0 hP hK hN hS dX6_rotate_34 (by decide) (by decide) hw
  unfold w_X6_rotate at hw
  refine lv_iload_n hx hb dX6_rotate_0 rfl (lv_at hl 1 rfl) ?_
  refine xg_calli (va_runS (As := [.int (p0)]) (rest := []) ⟨hx, hb, hml, hown, hts⟩ (c_X6_isFile l hl9 hA p0 hw) (va_cwS 1 hts gX6_rotate_X6_isFile rfl rfl rfl (by decide +kernel) ⟨Nat.le_of_ble_eq_true rfl, Nat.le_of_ble_eq_true rfl⟩) (xg_preS hB0 hP hK hN hS) rfl rfl hl.1 rfl (lv_room (Nat.le_of_ble_eq_true rfl)) dX6_rotate_1 ⟨Nat.le_of_ble_eq_true rfl, Nat.le_of_ble_eq_true rfl⟩) hS (fun r1 h2 H locs hw hP hS => ?_)
  refine lv_istore_n (lv' := [(2, .int (r1)), (0, .ref (ad (60))), (1, .int (p0))]) hx hb dX6_rotate_4 rfl hl (by decide) rfl (fun ls hl => ?_)
  refine lv_aload_n hx hb dX6_rotate_5 rfl (lv_at hl 1 rfl) ?_
  refine lv_iload_n hx hb dX6_rotate_6 rfl (lv_at hl 0 rfl) ?_
  refine lv_if_ne (tgt := 14) hx hb dX6_rotate_7 (by decide) (fun c3 => ?_) (fun c3 => ?_)
  · have hw := hw.2 c3
    refine lv_aload_n hx hb dX6_rotate_14 rfl (lv_at hl 1 rfl) ?_
    refine lv_iload_n hx hb dX6_rotate_15 rfl (lv_at hl 2 rfl) ?_
    refine xg_calli (va_runV (As := [.int (p0)]) (rest := [.ref (ad (60))]) ⟨hx, hb, hml, hown, hts⟩ (c_X6_linesOf l hl9 hA p0 hw) (cwV 1 hts gX6_rotate_X6_linesOf rfl rfl rfl (by decide +kernel) ⟨Nat.le_of_ble_eq_true rfl, Nat.le_of_ble_eq_true rfl⟩) (xg_preV hB0 hP hK hN hS xs60 rfl) rfl rfl hl.1 rfl (lv_room (Nat.le_of_ble_eq_true rfl)) dX6_rotate_16 ⟨Nat.le_of_ble_eq_true rfl, Nat.le_of_ble_eq_true rfl⟩) hS (fun r4 h5 H locs hw hP hS => ?_)
    refine lv_if_ne (tgt := 26) hx hb dX6_rotate_19 (by decide) (fun c6 => ?_) (fun c6 => ?_)
    · have hw := hw.2 c6
      refine lv_iconst (v := 0) hx hb dX6_rotate_26 (by decide) ?_
      exact j_27 (60) (0) _ _ _ _ hw hP hS (lv_sub hl [1, 2] rfl)
    · have hw := hw.1 c6
      refine lv_iconst (v := 2) hx hb dX6_rotate_22 (by decide) ?_
      refine lv_goto (tgt := 27) hx hb dX6_rotate_23 (by decide) ?_
      exact j_27 (60) (2) _ _ _ _ hw hP hS (lv_sub hl [1, 2] rfl)
  · have hw := hw.1 c3
    refine lv_iconst (v := 1) hx hb dX6_rotate_10 (by decide) ?_
    refine lv_goto (tgt := 27) hx hb dX6_rotate_11 (by decide) ?_
    exact j_27 (60) (1) _ _ _ _ hw hP hS (lv_sub hl [1, 2] rfl)
set_option maxHeartbeats 4000000 in
set_option maxRecDepth 100000 in
theorem c_X6_connect (l : Launch) (hl9 : l.stackTraces = false) {B0 : Nat} {ad : Nat → Nat} {D : va_G} {T : Nat → ClassId} (hA : XA B0 ad) {h : xH} {K : Int32 → xH → Prop} (hw : w_X6_connect h K) : XM l yX6_connect wsX6_connect ({ frames := 1, cells := 0, slots := 0, locals := 21 } : Room) B0 ad D T h [.ref (ad (60))] xei K 0 0 := by
  unfold XM
  refine Met.ofW (cc := cX6_connect) (maxL := 1) (ret := (some .int)) (by decide) rfl ?_
  intro p e s m args below meth c s₁ B hml hv
  obtain ⟨rfl, hB0, hP, hK, hN⟩ := hv
  have hx := B.exec
  have hb := B.bytes
  have hr := B.returns
  have hts := atoms_spec (ws := wsX6_connect) B.pre
  have hown : s.vm.findClass RX6 = some m.cls := findClass_of_methodNamed B.named
  have hlocks := B.notSynchronized
  have iX6 : ∀ w ∈ u_ws RX6 TX6 34, w ∈ wsX6_connect := by decide +kernel
  have f_115 := hts (.fieldLink RX6 115 "LogSpoolerModel" "taken" "I") (by decide +kernel)
  have f_157 := hts (.fieldLink RX6 157 "LogSpoolerModel" "isConnected" "Z") (by decide +kernel)
  have f_161 := hts (.fieldLink RX6 161 "LogSpoolerModel" "sent" "I") (by decide +kernel)
  have hS : va_S (fun q => B0 ≤ q) s.heap s.heap [] := va_S.rf
  have hl := lv_entry ([.ref (ad (60))]) (n := 1) (Nat.le_of_ble_eq_true rfl)
  rw [lg_entry_eq]
  generalize (lg_sl ([.ref (ad (60))]) ++ List.replicate (1 - (lg_sl ([.ref (ad (60))])).length) Slot.unset).toArray = ls at hl ⊢
  have hl : lv_has ls 1 [(0, .ref (ad (60)))] := hl
  have j_13 : ∀ (s0 : Nat) (s1 : Int32) (h : xH) (H : Heap) (locs : List Loc) (ls : Array Slot), w_X6_connect_13 K s0 s1 h → XP ad D T h H → va_S (fun q => B0 ≤ q) s.heap H locs → lv_has ls 1 [(0, .ref (ad (60)))] → W p l e (headSpec wsX6_connect ({ frames := 1, cells := 0, slots := 0, locals := 21 } : Room)).room s m ([.ref (ad (60))] : List Value).toArray below meth c H locs 0 0 (MQ below (XQ B0 ad D T xei K) ([.ref (ad (60))] : List Value).toArray s 0 0 (fun q => B0 ≤ q)) (F0 m 13 ls [.int (s1), .ref (ad (60))]) := by
    intro s0 s1 h H locs ls hw hP hS hl 
    unfold w_X6_connect_13 at hw
    refine xg_calli (va_runV (As := [.int (s1)]) (rest := []) ⟨hx, hb, hml, hown, hts⟩ (c_X6_holds l hl9 hA s1 hw) (cwV 1 hts gX6_connect_X6_holds rfl rfl rfl (by decide +kernel) ⟨Nat.le_of_ble_eq_true rfl, Nat.le_of_ble_eq_true rfl⟩) (xg_preV hB0 hP hK hN hS xs60 rfl) rfl rfl hl.1 rfl (lv_room (Nat.le_of_ble_eq_true rfl)) dX6_connect_13 ⟨Nat.le_of_ble_eq_true rfl, Nat.le_of_ble_eq_true rfl⟩) hS (fun r2 h3 H locs hw hP hS => ?_)
    refine lv_if_ne (tgt := 21) hx hb dX6_connect_16 (by decide) (fun c4 => ?_) (fun c4 => ?_)
    · have hw := hw.2 c4
      refine lv_aload_n hx hb dX6_connect_21 rfl (lv_at hl 0 rfl) ?_
      refine lv_iconst (v := 1) hx hb dX6_connect_22 (by decide) ?_
      refine xg_put (C := RX6) (TC := TX6) (N := 34) hx hb hts iX6 tyX6 tyX6_ok nmX6 hown hK hP hA hS xs60 rfl 24 (by decide) f_157 (fun _ h9 => h9) rfl rfl (ty := .boolean) (by decide +kernel) rfl rfl dX6_connect_23 (fun H locs h5 eh5 hP hS => ?_)
      have hw := hw h5 eh5
      refine lv_aload_n hx hb dX6_connect_26 rfl (lv_at hl 0 rfl) ?_
      refine xg_get (C := RX6) (TC := TX6) (N := 34) hx hb hts iX6 hown hK hP xs60 rfl 26 (by decide) f_115 (fun _ h9 => h9) rfl dX6_connect_27 ?_
      refine lv_aload_n hx hb dX6_connect_30 rfl (lv_at hl 0 rfl) ?_
      refine xg_get (C := RX6) (TC := TX6) (N := 34) hx hb hts iX6 hown hK hP xs60 rfl 27 (by decide) f_161 (fun _ h9 => h9) rfl dX6_connect_31 ?_
      refine lv_isub hx hb dX6_connect_34 ?_
      exact xg_irets hx hb hr rfl hlocks hB0 hP hK hN hS dX6_connect_35 (by decide) (by decide) hw
    · have hw := hw.1 c4
      refine lv_iconst (v := 0) hx hb dX6_connect_19 (by decide) ?_
      exact xg_irets hx hb hr rfl hlocks hB0 hP hK hN hS dX6_connect_20 (by decide) (by decide) hw
  unfold w_X6_connect at hw
  refine lv_aload_n hx hb dX6_connect_0 rfl (lv_at hl 0 rfl) ?_
  refine lv_aload_n hx hb dX6_connect_1 rfl (lv_at hl 0 rfl) ?_
  refine xg_get (C := RX6) (TC := TX6) (N := 34) hx hb hts iX6 hown hK hP xs60 rfl 24 (by decide) f_157 (fun _ h9 => h9) rfl dX6_connect_2 ?_
  refine lv_if_eq (tgt := 12) hx hb dX6_connect_5 (by decide) (fun c1 => ?_) (fun c1 => ?_)
  · have hw := hw.1 c1
    refine lv_iconst (v := 0) hx hb dX6_connect_12 (by decide) ?_
    exact j_13 (60) (0) _ _ _ _ hw hP hS (lv_sub hl [0] rfl)
  · have hw := hw.2 c1
    refine lv_iconst (v := 1) hx hb dX6_connect_8 (by decide) ?_
    refine lv_goto (tgt := 13) hx hb dX6_connect_9 (by decide) ?_
    exact j_13 (60) (1) _ _ _ _ hw hP hS (lv_sub hl [0] rfl)
set_option maxHeartbeats 4000000 in
set_option maxRecDepth 100000 in
theorem c_X6_disconnect (l : Launch) (hl9 : l.stackTraces = false) {B0 : Nat} {ad : Nat → Nat} {D : va_G} {T : Nat → ClassId} (hA : XA B0 ad) {h : xH} {K : Int32 → xH → Prop} (hw : w_X6_disconnect h K) : XM l yX6_disconnect wsX6_disconnect ({ frames := 1, cells := 0, slots := 0, locals := 21 } : Room) B0 ad D T h [.ref (ad (60))] xei K 0 0 := by
  unfold XM
  refine Met.ofW (cc := cX6_disconnect) (maxL := 2) (ret := (some .int)) (by decide) rfl ?_
  intro p e s m args below meth c s₁ B hml hv
  obtain ⟨rfl, hB0, hP, hK, hN⟩ := hv
  have hx := B.exec
  have hb := B.bytes
  have hr := B.returns
  have hts := atoms_spec (ws := wsX6_disconnect) B.pre
  have hown : s.vm.findClass RX6 = some m.cls := findClass_of_methodNamed B.named
  have hlocks := B.notSynchronized
  have iX6 : ∀ w ∈ u_ws RX6 TX6 34, w ∈ wsX6_disconnect := by decide +kernel
  have f_118 := hts (.fieldLink RX6 118 "LogSpoolerModel" "acknowledged" "I") (by decide +kernel)
  have f_157 := hts (.fieldLink RX6 157 "LogSpoolerModel" "isConnected" "Z") (by decide +kernel)
  have f_161 := hts (.fieldLink RX6 161 "LogSpoolerModel" "sent" "I") (by decide +kernel)
  have hS : va_S (fun q => B0 ≤ q) s.heap s.heap [] := va_S.rf
  have hl := lv_entry ([.ref (ad (60))]) (n := 2) (Nat.le_of_ble_eq_true rfl)
  rw [lg_entry_eq]
  generalize (lg_sl ([.ref (ad (60))]) ++ List.replicate (2 - (lg_sl ([.ref (ad (60))])).length) Slot.unset).toArray = ls at hl ⊢
  have hl : lv_has ls 2 [(0, .ref (ad (60)))] := hl
  have j_13 : ∀ (s0 : Nat) (s1 : Int32) (h : xH) (H : Heap) (locs : List Loc) (ls : Array Slot), w_X6_disconnect_13 K s0 s1 h → XP ad D T h H → va_S (fun q => B0 ≤ q) s.heap H locs → lv_has ls 2 [(0, .ref (ad (60)))] → W p l e (headSpec wsX6_disconnect ({ frames := 1, cells := 0, slots := 0, locals := 21 } : Room)).room s m ([.ref (ad (60))] : List Value).toArray below meth c H locs 0 0 (MQ below (XQ B0 ad D T xei K) ([.ref (ad (60))] : List Value).toArray s 0 0 (fun q => B0 ≤ q)) (F0 m 13 ls [.int (s1), .ref (ad (60))]) := by
    intro s0 s1 h H locs ls hw hP hS hl 
    unfold w_X6_disconnect_13 at hw
    refine xg_calli (va_runV (As := [.int (s1)]) (rest := []) ⟨hx, hb, hml, hown, hts⟩ (c_X6_holds l hl9 hA s1 hw) (cwV 1 hts gX6_disconnect_X6_holds rfl rfl rfl (by decide +kernel) ⟨Nat.le_of_ble_eq_true rfl, Nat.le_of_ble_eq_true rfl⟩) (xg_preV hB0 hP hK hN hS xs60 rfl) rfl rfl hl.1 rfl (lv_room (Nat.le_of_ble_eq_true rfl)) dX6_disconnect_13 ⟨Nat.le_of_ble_eq_true rfl, Nat.le_of_ble_eq_true rfl⟩) hS (fun r2 h3 H locs hw hP hS => ?_)
    refine lv_if_ne (tgt := 21) hx hb dX6_disconnect_16 (by decide) (fun c4 => ?_) (fun c4 => ?_)
    · have hw := hw.2 c4
      refine lv_aload_n hx hb dX6_disconnect_21 rfl (lv_at hl 0 rfl) ?_
      refine xg_get (C := RX6) (TC := TX6) (N := 34) hx hb hts iX6 hown hK hP xs60 rfl 27 (by decide) f_161 (fun _ h9 => h9) rfl dX6_disconnect_22 ?_
      refine lv_aload_n hx hb dX6_disconnect_25 rfl (lv_at hl 0 rfl) ?_
      refine xg_get (C := RX6) (TC := TX6) (N := 34) hx hb hts iX6 hown hK hP xs60 rfl 28 (by decide) f_118 (fun _ h9 => h9) rfl dX6_disconnect_26 ?_
      refine lv_isub hx hb dX6_disconnect_29 ?_
      refine lv_topi (fun x5 ex5 => ?_)
      have hw := hw x5 ex5
      refine lv_istore_n (lv' := [(1, .int (x5)), (0, .ref (ad (60)))]) hx hb dX6_disconnect_30 rfl hl (by decide) rfl (fun ls hl => ?_)
      refine lv_aload_n hx hb dX6_disconnect_31 rfl (lv_at hl 1 rfl) ?_
      refine lv_iconst (v := 0) hx hb dX6_disconnect_32 (by decide) ?_
      refine xg_put (C := RX6) (TC := TX6) (N := 34) hx hb hts iX6 tyX6 tyX6_ok nmX6 hown hK hP hA hS xs60 rfl 24 (by decide) f_157 (fun _ h9 => h9) rfl rfl (ty := .boolean) (by decide +kernel) rfl rfl dX6_disconnect_33 (fun H locs h6 eh6 hP hS => ?_)
      have hw := hw h6 eh6
      refine lv_aload_n hx hb dX6_disconnect_36 rfl (lv_at hl 1 rfl) ?_
      refine lv_aload_n hx hb dX6_disconnect_37 rfl (lv_at hl 1 rfl) ?_
      refine xg_get (C := RX6) (TC := TX6) (N := 34) hx hb hts iX6 hown hK hP xs60 rfl 28 (by decide) f_118 (fun _ h9 => h9) rfl dX6_disconnect_38 ?_
      refine xg_put (C := RX6) (TC := TX6) (N := 34) hx hb hts iX6 tyX6 tyX6_ok nmX6 hown hK hP hA hS xs60 rfl 27 (by decide) f_161 (fun _ h9 => h9) rfl rfl (ty := .int) (by decide +kernel) rfl rfl dX6_disconnect_41 (fun H locs h7 eh7 hP hS => ?_)
      have hw := hw h7 eh7
      refine lv_iload_n hx hb dX6_disconnect_44 rfl (lv_at hl 0 rfl) ?_
      exact xg_irets hx hb hr rfl hlocks hB0 hP hK hN hS dX6_disconnect_45 (by decide) (by decide) hw
    · have hw := hw.1 c4
      refine lv_iconst (v := 0) hx hb dX6_disconnect_19 (by decide) ?_
      exact xg_irets hx hb hr rfl hlocks hB0 hP hK hN hS dX6_disconnect_20 (by decide) (by decide) hw
  unfold w_X6_disconnect at hw
  refine lv_aload_n hx hb dX6_disconnect_0 rfl (lv_at hl 0 rfl) ?_
  refine lv_aload_n hx hb dX6_disconnect_1 rfl (lv_at hl 0 rfl) ?_
  refine xg_get (C := RX6) (TC := TX6) (N := 34) hx hb hts iX6 hown hK hP xs60 rfl 24 (by decide) f_157 (fun _ h9 => h9) rfl dX6_disconnect_2 ?_
  refine lv_if_eq (tgt := 12) hx hb dX6_disconnect_5 (by decide) (fun c1 => ?_) (fun c1 => ?_)
  · have hw := hw.1 c1
    refine lv_iconst (v := 1) hx hb dX6_disconnect_12 (by decide) ?_
    exact j_13 (60) (1) _ _ _ _ hw hP hS (lv_sub hl [0] rfl)
  · have hw := hw.2 c1
    refine lv_iconst (v := 0) hx hb dX6_disconnect_8 (by decide) ?_
    refine lv_goto (tgt := 13) hx hb dX6_disconnect_9 (by decide) ?_
    exact j_13 (60) (0) _ _ _ _ hw hP hS (lv_sub hl [0] rfl)
set_option maxHeartbeats 4000000 in
set_option maxRecDepth 100000 in
theorem c_X6_send (l : Launch) (hl9 : l.stackTraces = false) {B0 : Nat} {ad : Nat → Nat} {D : va_G} {T : Nat → ClassId} (hA : XA B0 ad) {h : xH} {K : Int32 → xH → Prop} (hw : w_X6_send h K) : XM l yX6_send wsX6_send ({ frames := 1, cells := 0, slots := 0, locals := 21 } : Room) B0 ad D T h [.ref (ad (60))] xei K 0 0 := by
  unfold XM
  refine Met.ofW (cc := cX6_send) (maxL := 1) (ret := (some .int)) (by decide) rfl ?_
  intro p e s m args below meth c s₁ B hml hv
  obtain ⟨rfl, hB0, hP, hK, hN⟩ := hv
  have hx := B.exec
  have hb := B.bytes
  have hr := B.returns
  have hts := atoms_spec (ws := wsX6_send) B.pre
  have hown : s.vm.findClass RX6 = some m.cls := findClass_of_methodNamed B.named
  have hlocks := B.notSynchronized
  have iX6 : ∀ w ∈ u_ws RX6 TX6 34, w ∈ wsX6_send := by decide +kernel
  have f_78 := hts (.fieldLink RX6 78 "LogSpoolerModel" "forwarded" "[I") (by decide +kernel)
  have f_115 := hts (.fieldLink RX6 115 "LogSpoolerModel" "taken" "I") (by decide +kernel)
  have f_118 := hts (.fieldLink RX6 118 "LogSpoolerModel" "acknowledged" "I") (by decide +kernel)
  have f_157 := hts (.fieldLink RX6 157 "LogSpoolerModel" "isConnected" "Z") (by decide +kernel)
  have f_161 := hts (.fieldLink RX6 161 "LogSpoolerModel" "sent" "I") (by decide +kernel)
  have hS : va_S (fun q => B0 ≤ q) s.heap s.heap [] := va_S.rf
  have hl := lv_entry ([.ref (ad (60))]) (n := 1) (Nat.le_of_ble_eq_true rfl)
  rw [lg_entry_eq]
  generalize (lg_sl ([.ref (ad (60))]) ++ List.replicate (1 - (lg_sl ([.ref (ad (60))])).length) Slot.unset).toArray = ls at hl ⊢
  have hl : lv_has ls 1 [(0, .ref (ad (60)))] := hl
  have j_37 : ∀ (s0 : Nat) (s1 : Int32) (h : xH) (H : Heap) (locs : List Loc) (ls : Array Slot), w_X6_send_37 K s0 s1 h → XP ad D T h H → va_S (fun q => B0 ≤ q) s.heap H locs → lv_has ls 1 [(0, .ref (ad (60)))] → W p l e (headSpec wsX6_send ({ frames := 1, cells := 0, slots := 0, locals := 21 } : Room)).room s m ([.ref (ad (60))] : List Value).toArray below meth c H locs 0 0 (MQ below (XQ B0 ad D T xei K) ([.ref (ad (60))] : List Value).toArray s 0 0 (fun q => B0 ≤ q)) (F0 m 37 ls [.int (s1), .ref (ad (60))]) := by
    intro s0 s1 h H locs ls hw hP hS hl 
    unfold w_X6_send_37 at hw
    refine xg_calli (va_runV (As := [.int (s1)]) (rest := []) ⟨hx, hb, hml, hown, hts⟩ (c_X6_holds l hl9 hA s1 hw) (cwV 1 hts gX6_send_X6_holds rfl rfl rfl (by decide +kernel) ⟨Nat.le_of_ble_eq_true rfl, Nat.le_of_ble_eq_true rfl⟩) (xg_preV hB0 hP hK hN hS xs60 rfl) rfl rfl hl.1 rfl (lv_room (Nat.le_of_ble_eq_true rfl)) dX6_send_37 ⟨Nat.le_of_ble_eq_true rfl, Nat.le_of_ble_eq_true rfl⟩) hS (fun r4 h5 H locs hw hP hS => ?_)
    refine lv_if_ne (tgt := 45) hx hb dX6_send_40 (by decide) (fun c6 => ?_) (fun c6 => ?_)
    · have hw := hw.2 c6
      refine lv_aload_n hx hb dX6_send_45 rfl (lv_at hl 0 rfl) ?_
      refine lv_dup hx hb dX6_send_46 rfl ?_
      refine xg_get (C := RX6) (TC := TX6) (N := 34) hx hb hts iX6 hown hK hP xs60 rfl 27 (by decide) f_161 (fun _ h9 => h9) rfl dX6_send_47 ?_
      refine lv_iconst (v := 1) hx hb dX6_send_50 (by decide) ?_
      refine lv_iadd hx hb dX6_send_51 ?_
      refine xg_put (C := RX6) (TC := TX6) (N := 34) hx hb hts iX6 tyX6 tyX6_ok nmX6 hown hK hP hA hS xs60 rfl 27 (by decide) f_161 (fun _ h9 => h9) rfl rfl (ty := .int) (by decide +kernel) rfl rfl dX6_send_52 (fun H locs h7 eh7 hP hS => ?_)
      have hw := hw h7 eh7
      refine lv_aload_n hx hb dX6_send_55 rfl (lv_at hl 0 rfl) ?_
      refine xg_getr (C := RX6) (TC := TX6) (N := 34) hx hb hts iX6 hown hK hP xs60 rfl 25 (by decide) f_78 (fun _ h9 => h9) rfl dX6_send_56 ?_
      refine lv_aload_n hx hb dX6_send_59 rfl (lv_at hl 0 rfl) ?_
      refine xg_get (C := RX6) (TC := TX6) (N := 34) hx hb hts iX6 hown hK hP xs60 rfl 27 (by decide) f_161 (fun _ h9 => h9) rfl dX6_send_60 ?_
      refine lv_iconst (v := 1) hx hb dX6_send_63 (by decide) ?_
      refine lv_isub hx hb dX6_send_64 ?_
      obtain ⟨hi8, hw⟩ := hw
      refine xg_iald hx hb hK hP xs85 hi8 dX6_send_65 ?_
      exact xg_irets hx hb hr rfl hlocks hB0 hP hK hN hS dX6_send_66 (by decide) (by decide) hw
    · have hw := hw.1 c6
      refine lv_iconst (v := 0) hx hb dX6_send_43 (by decide) ?_
      exact xg_irets hx hb hr rfl hlocks hB0 hP hK hN hS dX6_send_44 (by decide) (by decide) hw
  have j_32 : ∀ (s0 : Nat) (h : xH) (H : Heap) (locs : List Loc) (ls : Array Slot), w_X6_send_32 K s0 h → XP ad D T h H → va_S (fun q => B0 ≤ q) s.heap H locs → lv_has ls 1 [(0, .ref (ad (60)))] → W p l e (headSpec wsX6_send ({ frames := 1, cells := 0, slots := 0, locals := 21 } : Room)).room s m ([.ref (ad (60))] : List Value).toArray below meth c H locs 0 0 (MQ below (XQ B0 ad D T xei K) ([.ref (ad (60))] : List Value).toArray s 0 0 (fun q => B0 ≤ q)) (F0 m 32 ls [.ref (ad (60))]) := by
    intro s0 h H locs ls hw hP hS hl 
    unfold w_X6_send_32 at hw
    refine lv_iconst (v := 1) hx hb dX6_send_32 (by decide) ?_
    refine lv_goto (tgt := 37) hx hb dX6_send_33 (by decide) ?_
    exact j_37 (60) (1) _ _ _ _ hw hP hS (lv_sub hl [0] rfl)
  unfold w_X6_send at hw
  refine lv_aload_n hx hb dX6_send_0 rfl (lv_at hl 0 rfl) ?_
  refine lv_aload_n hx hb dX6_send_1 rfl (lv_at hl 0 rfl) ?_
  refine xg_get (C := RX6) (TC := TX6) (N := 34) hx hb hts iX6 hown hK hP xs60 rfl 24 (by decide) f_157 (fun _ h9 => h9) rfl dX6_send_2 ?_
  refine lv_if_eq (tgt := 32) hx hb dX6_send_5 (by decide) (fun c1 => ?_) (fun c1 => ?_)
  · have hw := hw.1 c1
    exact j_32 (60) _ _ _ _ hw hP hS (lv_sub hl [0] rfl)
  · have hw := hw.2 c1
    refine lv_aload_n hx hb dX6_send_8 rfl (lv_at hl 0 rfl) ?_
    refine xg_get (C := RX6) (TC := TX6) (N := 34) hx hb hts iX6 hown hK hP xs60 rfl 26 (by decide) f_115 (fun _ h9 => h9) rfl dX6_send_9 ?_
    refine lv_aload_n hx hb dX6_send_12 rfl (lv_at hl 0 rfl) ?_
    refine xg_get (C := RX6) (TC := TX6) (N := 34) hx hb hts iX6 hown hK hP xs60 rfl 27 (by decide) f_161 (fun _ h9 => h9) rfl dX6_send_13 ?_
    refine lv_icmp_eq (tgt := 32) hx hb dX6_send_16 (by decide) (fun c2 => ?_) (fun c2 => ?_)
    · have hw := hw.1 c2
      exact j_32 (60) _ _ _ _ hw hP hS (lv_sub hl [0] rfl)
    · have hw := hw.2 c2
      refine lv_aload_n hx hb dX6_send_19 rfl (lv_at hl 0 rfl) ?_
      refine xg_get (C := RX6) (TC := TX6) (N := 34) hx hb hts iX6 hown hK hP xs60 rfl 27 (by decide) f_161 (fun _ h9 => h9) rfl dX6_send_20 ?_
      refine lv_aload_n hx hb dX6_send_23 rfl (lv_at hl 0 rfl) ?_
      refine xg_get (C := RX6) (TC := TX6) (N := 34) hx hb hts iX6 hown hK hP xs60 rfl 28 (by decide) f_118 (fun _ h9 => h9) rfl dX6_send_24 ?_
      refine lv_isub hx hb dX6_send_27 ?_
      refine lv_iconst (v := 5) hx hb dX6_send_28 (by decide) ?_
      refine lv_icmp_ne (tgt := 36) hx hb dX6_send_29 (by decide) (fun c3 => ?_) (fun c3 => ?_)
      · have hw := hw.2 c3
        refine lv_iconst (v := 0) hx hb dX6_send_36 (by decide) ?_
        exact j_37 (60) (0) _ _ _ _ hw hP hS (lv_sub hl [0] rfl)
      · have hw := hw.1 c3
        exact j_32 (60) _ _ _ _ hw hP hS (lv_sub hl [0] rfl)
set_option maxHeartbeats 4000000 in
set_option maxRecDepth 100000 in
theorem c_X6_acknowledge (l : Launch) (hl9 : l.stackTraces = false) {B0 : Nat} {ad : Nat → Nat} {D : va_G} {T : Nat → ClassId} (hA : XA B0 ad) {h : xH} {K : Int32 → xH → Prop} (hw : w_X6_acknowledge h K) : XM l yX6_acknowledge wsX6_acknowledge ({ frames := 1, cells := 0, slots := 0, locals := 21 } : Room) B0 ad D T h [.ref (ad (60))] xei K 0 0 := by
  unfold XM
  refine Met.ofW (cc := cX6_acknowledge) (maxL := 1) (ret := (some .int)) (by decide) rfl ?_
  intro p e s m args below meth c s₁ B hml hv
  obtain ⟨rfl, hB0, hP, hK, hN⟩ := hv
  have hx := B.exec
  have hb := B.bytes
  have hr := B.returns
  have hts := atoms_spec (ws := wsX6_acknowledge) B.pre
  have hown : s.vm.findClass RX6 = some m.cls := findClass_of_methodNamed B.named
  have hlocks := B.notSynchronized
  have iX6 : ∀ w ∈ u_ws RX6 TX6 34, w ∈ wsX6_acknowledge := by decide +kernel
  have f_78 := hts (.fieldLink RX6 78 "LogSpoolerModel" "forwarded" "[I") (by decide +kernel)
  have f_118 := hts (.fieldLink RX6 118 "LogSpoolerModel" "acknowledged" "I") (by decide +kernel)
  have f_161 := hts (.fieldLink RX6 161 "LogSpoolerModel" "sent" "I") (by decide +kernel)
  have hS : va_S (fun q => B0 ≤ q) s.heap s.heap [] := va_S.rf
  have hl := lv_entry ([.ref (ad (60))]) (n := 1) (Nat.le_of_ble_eq_true rfl)
  rw [lg_entry_eq]
  generalize (lg_sl ([.ref (ad (60))]) ++ List.replicate (1 - (lg_sl ([.ref (ad (60))])).length) Slot.unset).toArray = ls at hl ⊢
  have hl : lv_has ls 1 [(0, .ref (ad (60)))] := hl
  have j_17 : ∀ (s0 : Nat) (s1 : Int32) (h : xH) (H : Heap) (locs : List Loc) (ls : Array Slot), w_X6_acknowledge_17 K s0 s1 h → XP ad D T h H → va_S (fun q => B0 ≤ q) s.heap H locs → lv_has ls 1 [(0, .ref (ad (60)))] → W p l e (headSpec wsX6_acknowledge ({ frames := 1, cells := 0, slots := 0, locals := 21 } : Room)).room s m ([.ref (ad (60))] : List Value).toArray below meth c H locs 0 0 (MQ below (XQ B0 ad D T xei K) ([.ref (ad (60))] : List Value).toArray s 0 0 (fun q => B0 ≤ q)) (F0 m 17 ls [.int (s1), .ref (ad (60))]) := by
    intro s0 s1 h H locs ls hw hP hS hl 
    unfold w_X6_acknowledge_17 at hw
    refine xg_calli (va_runV (As := [.int (s1)]) (rest := []) ⟨hx, hb, hml, hown, hts⟩ (c_X6_holds l hl9 hA s1 hw) (cwV 1 hts gX6_acknowledge_X6_holds rfl rfl rfl (by decide +kernel) ⟨Nat.le_of_ble_eq_true rfl, Nat.le_of_ble_eq_true rfl⟩) (xg_preV hB0 hP hK hN hS xs60 rfl) rfl rfl hl.1 rfl (lv_room (Nat.le_of_ble_eq_true rfl)) dX6_acknowledge_17 ⟨Nat.le_of_ble_eq_true rfl, Nat.le_of_ble_eq_true rfl⟩) hS (fun r2 h3 H locs hw hP hS => ?_)
    refine lv_if_ne (tgt := 25) hx hb dX6_acknowledge_20 (by decide) (fun c4 => ?_) (fun c4 => ?_)
    · have hw := hw.2 c4
      refine lv_aload_n hx hb dX6_acknowledge_25 rfl (lv_at hl 0 rfl) ?_
      refine lv_dup hx hb dX6_acknowledge_26 rfl ?_
      refine xg_get (C := RX6) (TC := TX6) (N := 34) hx hb hts iX6 hown hK hP xs60 rfl 28 (by decide) f_118 (fun _ h9 => h9) rfl dX6_acknowledge_27 ?_
      refine lv_iconst (v := 1) hx hb dX6_acknowledge_30 (by decide) ?_
      refine lv_iadd hx hb dX6_acknowledge_31 ?_
      refine xg_put (C := RX6) (TC := TX6) (N := 34) hx hb hts iX6 tyX6 tyX6_ok nmX6 hown hK hP hA hS xs60 rfl 28 (by decide) f_118 (fun _ h9 => h9) rfl rfl (ty := .int) (by decide +kernel) rfl rfl dX6_acknowledge_32 (fun H locs h5 eh5 hP hS => ?_)
      have hw := hw h5 eh5
      refine lv_aload_n hx hb dX6_acknowledge_35 rfl (lv_at hl 0 rfl) ?_
      refine xg_getr (C := RX6) (TC := TX6) (N := 34) hx hb hts iX6 hown hK hP xs60 rfl 25 (by decide) f_78 (fun _ h9 => h9) rfl dX6_acknowledge_36 ?_
      refine lv_aload_n hx hb dX6_acknowledge_39 rfl (lv_at hl 0 rfl) ?_
      refine xg_get (C := RX6) (TC := TX6) (N := 34) hx hb hts iX6 hown hK hP xs60 rfl 28 (by decide) f_118 (fun _ h9 => h9) rfl dX6_acknowledge_40 ?_
      refine lv_iconst (v := 1) hx hb dX6_acknowledge_43 (by decide) ?_
      refine lv_isub hx hb dX6_acknowledge_44 ?_
      obtain ⟨hi6, hw⟩ := hw
      refine xg_iald hx hb hK hP xs85 hi6 dX6_acknowledge_45 ?_
      exact xg_irets hx hb hr rfl hlocks hB0 hP hK hN hS dX6_acknowledge_46 (by decide) (by decide) hw
    · have hw := hw.1 c4
      refine lv_iconst (v := 0) hx hb dX6_acknowledge_23 (by decide) ?_
      exact xg_irets hx hb hr rfl hlocks hB0 hP hK hN hS dX6_acknowledge_24 (by decide) (by decide) hw
  unfold w_X6_acknowledge at hw
  refine lv_aload_n hx hb dX6_acknowledge_0 rfl (lv_at hl 0 rfl) ?_
  refine lv_aload_n hx hb dX6_acknowledge_1 rfl (lv_at hl 0 rfl) ?_
  refine xg_get (C := RX6) (TC := TX6) (N := 34) hx hb hts iX6 hown hK hP xs60 rfl 27 (by decide) f_161 (fun _ h9 => h9) rfl dX6_acknowledge_2 ?_
  refine lv_aload_n hx hb dX6_acknowledge_5 rfl (lv_at hl 0 rfl) ?_
  refine xg_get (C := RX6) (TC := TX6) (N := 34) hx hb hts iX6 hown hK hP xs60 rfl 28 (by decide) f_118 (fun _ h9 => h9) rfl dX6_acknowledge_6 ?_
  refine lv_icmp_ne (tgt := 16) hx hb dX6_acknowledge_9 (by decide) (fun c1 => ?_) (fun c1 => ?_)
  · have hw := hw.2 c1
    refine lv_iconst (v := 0) hx hb dX6_acknowledge_16 (by decide) ?_
    exact j_17 (60) (0) _ _ _ _ hw hP hS (lv_sub hl [0] rfl)
  · have hw := hw.1 c1
    refine lv_iconst (v := 1) hx hb dX6_acknowledge_12 (by decide) ?_
    refine lv_goto (tgt := 17) hx hb dX6_acknowledge_13 (by decide) ?_
    exact j_17 (60) (1) _ _ _ _ hw hP hS (lv_sub hl [0] rfl)
set_option maxHeartbeats 4000000 in
set_option maxRecDepth 100000 in
theorem c_X6_time (l : Launch) (hl9 : l.stackTraces = false) {B0 : Nat} {ad : Nat → Nat} {D : va_G} {T : Nat → ClassId} (hA : XA B0 ad) {h : xH} {K : Int32 → xH → Prop} (hw : w_X6_time h K) : XM l yX6_time wsX6_time ({ frames := 0, cells := 0, slots := 0, locals := 0 } : Room) B0 ad D T h [.ref (ad (60))] xei K 0 0 := by
  unfold XM
  refine Met.ofW (cc := cX6_time) (maxL := 1) (ret := (some .int)) (by decide) rfl ?_
  intro p e s m args below meth c s₁ B hml hv
  obtain ⟨rfl, hB0, hP, hK, hN⟩ := hv
  have hx := B.exec
  have hb := B.bytes
  have hr := B.returns
  have hts := atoms_spec (ws := wsX6_time) B.pre
  have hown : s.vm.findClass RX6 = some m.cls := findClass_of_methodNamed B.named
  have hlocks := B.notSynchronized
  have iX6 : ∀ w ∈ u_ws RX6 TX6 34, w ∈ wsX6_time := by decide +kernel
  have f_87 := hts (.fieldLink RX6 87 "LogSpoolerModel" "thrown" "I") (by decide +kernel)
  have f_112 := hts (.fieldLink RX6 112 "LogSpoolerModel" "time" "I") (by decide +kernel)
  have hS : va_S (fun q => B0 ≤ q) s.heap s.heap [] := va_S.rf
  have hl := lv_entry ([.ref (ad (60))]) (n := 1) (Nat.le_of_ble_eq_true rfl)
  rw [lg_entry_eq]
  generalize (lg_sl ([.ref (ad (60))]) ++ List.replicate (1 - (lg_sl ([.ref (ad (60))])).length) Slot.unset).toArray = ls at hl ⊢
  have hl : lv_has ls 1 [(0, .ref (ad (60)))] := hl
  unfold w_X6_time at hw
  refine lv_aload_n hx hb dX6_time_0 rfl (lv_at hl 0 rfl) ?_
  refine lv_iconst (v := 0) hx hb dX6_time_1 (by decide) ?_
  refine xg_put (C := RX6) (TC := TX6) (N := 34) hx hb hts iX6 tyX6 tyX6_ok nmX6 hown hK hP hA hS xs60 rfl 0 (by decide) f_87 (fun _ h9 => h9) rfl rfl (ty := .int) (by decide +kernel) rfl rfl dX6_time_2 (fun H locs h1 eh1 hP hS => ?_)
  have hw := hw h1 eh1
  refine lv_aload_n hx hb dX6_time_5 rfl (lv_at hl 0 rfl) ?_
  refine xg_get (C := RX6) (TC := TX6) (N := 34) hx hb hts iX6 hown hK hP xs60 rfl 1 (by decide) f_112 (fun _ h9 => h9) rfl dX6_time_6 ?_
  exact xg_irets hx hb hr rfl hlocks hB0 hP hK hN hS dX6_time_9 (by decide) (by decide) hw
set_option maxHeartbeats 4000000 in
set_option maxRecDepth 100000 in
theorem c_X6_isSender (l : Launch) (hl9 : l.stackTraces = false) {B0 : Nat} {ad : Nat → Nat} {D : va_G} {T : Nat → ClassId} (hA : XA B0 ad) (p0 : Int32) {h : xH} {K : Int32 → xH → Prop} (hw : w_X6_isSender p0 h K) : XM l yX6_isSender wsX6_isSender ({ frames := 1, cells := 0, slots := 0, locals := 22 } : Room) B0 ad D T h [.ref (ad (60)), .int (p0)] xei K 0 0 := by
  unfold XM
  refine Met.ofW (cc := cX6_isSender) (maxL := 2) (ret := (some .boolean)) (by decide) rfl ?_
  intro p e s m args below meth c s₁ B hml hv
  obtain ⟨rfl, hB0, hP, hK, hN⟩ := hv
  have hx := B.exec
  have hb := B.bytes
  have hr := B.returns
  have hts := atoms_spec (ws := wsX6_isSender) B.pre
  have hown : s.vm.findClass RX6 = some m.cls := findClass_of_methodNamed B.named
  have hlocks := B.notSynchronized
  have hS : va_S (fun q => B0 ≤ q) s.heap s.heap [] := va_S.rf
  have hl := lv_entry ([.ref (ad (60)), .int (p0)]) (n := 2) (Nat.le_of_ble_eq_true rfl)
  rw [lg_entry_eq]
  generalize (lg_sl ([.ref (ad (60)), .int (p0)]) ++ List.replicate (2 - (lg_sl ([.ref (ad (60)), .int (p0)])).length) Slot.unset).toArray = ls at hl ⊢
  have hl : lv_has ls 2 [(0, .ref (ad (60))), (1, .int (p0))] := hl
  have j_15 : ∀ (s0 : Nat) (s1 : Int32) (h : xH) (H : Heap) (locs : List Loc) (ls : Array Slot), w_X6_isSender_15 p0 K s0 s1 h → XP ad D T h H → va_S (fun q => B0 ≤ q) s.heap H locs → lv_has ls 2 [] → W p l e (headSpec wsX6_isSender ({ frames := 1, cells := 0, slots := 0, locals := 22 } : Room)).room s m ([.ref (ad (60)), .int (p0)] : List Value).toArray below meth c H locs 0 0 (MQ below (XQ B0 ad D T xei K) ([.ref (ad (60)), .int (p0)] : List Value).toArray s 0 0 (fun q => B0 ≤ q)) (F0 m 15 ls [.int (s1), .ref (ad (60))]) := by
    intro s0 s1 h H locs ls hw hP hS hl 
    unfold w_X6_isSender_15 at hw
    refine xg_calli (va_runV (As := [.int (s1)]) (rest := []) ⟨hx, hb, hml, hown, hts⟩ (c_X6_holds l hl9 hA s1 hw) (cwV 1 hts gX6_isSender_X6_holds rfl rfl rfl (by decide +kernel) ⟨Nat.le_of_ble_eq_true rfl, Nat.le_of_ble_eq_true rfl⟩) (xg_preV hB0 hP hK hN hS xs60 rfl) rfl rfl hl.1 rfl (lv_room (Nat.le_of_ble_eq_true rfl)) dX6_isSender_15 ⟨Nat.le_of_ble_eq_true rfl, Nat.le_of_ble_eq_true rfl⟩) hS (fun r4 h5 H locs hw hP hS => ?_)
    obtain ⟨hz6, hw⟩ := hw
    exact xg_irets hx hb hr hz6 hlocks hB0 hP hK hN hS dX6_isSender_18 (by decide) (by decide) hw
  unfold w_X6_isSender at hw
  refine lv_aload_n hx hb dX6_isSender_0 rfl (lv_at hl 0 rfl) ?_
  refine lv_iload_n hx hb dX6_isSender_1 rfl (lv_at hl 1 rfl) ?_
  refine lv_iconst (v := 0) hx hb dX6_isSender_2 (by decide) ?_
  refine lv_iconst (v := 5) hx hb dX6_isSender_3 (by decide) ?_
  refine xg_calli (va_runS (As := [.int (p0), .int (0), .int (5)]) (rest := [.ref (ad (60))]) ⟨hx, hb, hml, hown, hts⟩ (c_X6_isIn l hl9 hA p0 (0 : Int32) (5 : Int32) hw) (va_cwS 3 hts gX6_isSender_X6_isIn rfl rfl rfl (by decide +kernel) ⟨Nat.le_of_ble_eq_true rfl, Nat.le_of_ble_eq_true rfl⟩) (xg_preS hB0 hP hK hN hS) rfl rfl hl.1 rfl (lv_room (Nat.le_of_ble_eq_true rfl)) dX6_isSender_4 ⟨Nat.le_of_ble_eq_true rfl, Nat.le_of_ble_eq_true rfl⟩) hS (fun r1 h2 H locs hw hP hS => ?_)
  refine lv_if_eq (tgt := 14) hx hb dX6_isSender_7 (by decide) (fun c3 => ?_) (fun c3 => ?_)
  · have hw := hw.1 c3
    refine lv_iconst (v := 1) hx hb dX6_isSender_14 (by decide) ?_
    exact j_15 (60) (1) _ _ _ _ hw hP hS (lv_sub hl [] rfl)
  · have hw := hw.2 c3
    refine lv_iconst (v := 0) hx hb dX6_isSender_10 (by decide) ?_
    refine lv_goto (tgt := 15) hx hb dX6_isSender_11 (by decide) ?_
    exact j_15 (60) (0) _ _ _ _ hw hP hS (lv_sub hl [] rfl)
set_option maxHeartbeats 4000000 in
set_option maxRecDepth 100000 in
theorem c_X6_tokens (l : Launch) (hl9 : l.stackTraces = false) {B0 : Nat} {ad : Nat → Nat} {D : va_G} {T : Nat → ClassId} (hA : XA B0 ad) (p0 : Int32) {h : xH} {K : Int32 → xH → Prop} (hw : w_X6_tokens p0 h K) : XM l yX6_tokens wsX6_tokens ({ frames := 2, cells := 0, slots := 0, locals := 43 } : Room) B0 ad D T h [.ref (ad (60)), .int (p0)] xei K 0 0 := by
  unfold XM
  refine Met.ofW (cc := cX6_tokens) (maxL := 2) (ret := (some .int)) (by decide) rfl ?_
  intro p e s m args below meth c s₁ B hml hv
  obtain ⟨rfl, hB0, hP, hK, hN⟩ := hv
  have hx := B.exec
  have hb := B.bytes
  have hr := B.returns
  have hts := atoms_spec (ws := wsX6_tokens) B.pre
  have hown : s.vm.findClass RX6 = some m.cls := findClass_of_methodNamed B.named
  have hlocks := B.notSynchronized
  have iX6 : ∀ w ∈ u_ws RX6 TX6 34, w ∈ wsX6_tokens := by decide +kernel
  have f_19 := hts (.fieldLink RX6 19 "LogSpoolerModel" "tokens" "[I") (by decide +kernel)
  have hS : va_S (fun q => B0 ≤ q) s.heap s.heap [] := va_S.rf
  have hl := lv_entry ([.ref (ad (60)), .int (p0)]) (n := 2) (Nat.le_of_ble_eq_true rfl)
  rw [lg_entry_eq]
  generalize (lg_sl ([.ref (ad (60)), .int (p0)]) ++ List.replicate (2 - (lg_sl ([.ref (ad (60)), .int (p0)])).length) Slot.unset).toArray = ls at hl ⊢
  have hl : lv_has ls 2 [(0, .ref (ad (60))), (1, .int (p0))] := hl
  unfold w_X6_tokens at hw
  refine lv_aload_n hx hb dX6_tokens_0 rfl (lv_at hl 0 rfl) ?_
  refine lv_iload_n hx hb dX6_tokens_1 rfl (lv_at hl 1 rfl) ?_
  refine xg_calli (va_runV (As := [.int (p0)]) (rest := []) ⟨hx, hb, hml, hown, hts⟩ (c_X6_isSender l hl9 hA p0 hw) (cwV 1 hts gX6_tokens_X6_isSender rfl rfl rfl (by decide +kernel) ⟨Nat.le_of_ble_eq_true rfl, Nat.le_of_ble_eq_true rfl⟩) (xg_preV hB0 hP hK hN hS xs60 rfl) rfl rfl hl.1 rfl (lv_room (Nat.le_of_ble_eq_true rfl)) dX6_tokens_2 ⟨Nat.le_of_ble_eq_true rfl, Nat.le_of_ble_eq_true rfl⟩) hS (fun r1 h2 H locs hw hP hS => ?_)
  refine lv_if_eq (tgt := 17) hx hb dX6_tokens_5 (by decide) (fun c3 => ?_) (fun c3 => ?_)
  · have hw := hw.1 c3
    refine lv_iconst (v := 0) hx hb dX6_tokens_17 (by decide) ?_
    exact xg_irets hx hb hr rfl hlocks hB0 hP hK hN hS dX6_tokens_18 (by decide) (by decide) hw
  · have hw := hw.2 c3
    refine lv_aload_n hx hb dX6_tokens_8 rfl (lv_at hl 0 rfl) ?_
    refine xg_getr (C := RX6) (TC := TX6) (N := 34) hx hb hts iX6 hown hK hP xs60 rfl 5 (by decide) f_19 (fun _ h9 => h9) rfl dX6_tokens_9 ?_
    refine lv_iload_n hx hb dX6_tokens_12 rfl (lv_at hl 1 rfl) ?_
    obtain ⟨hi4, hw⟩ := hw
    refine xg_iald hx hb hK hP xs65 hi4 dX6_tokens_13 ?_
    refine lv_goto (tgt := 18) hx hb dX6_tokens_14 (by decide) ?_
    exact xg_irets hx hb hr rfl hlocks hB0 hP hK hN hS dX6_tokens_18 (by decide) (by decide) hw
set_option maxHeartbeats 4000000 in
set_option maxRecDepth 100000 in
theorem c_X6_repeats (l : Launch) (hl9 : l.stackTraces = false) {B0 : Nat} {ad : Nat → Nat} {D : va_G} {T : Nat → ClassId} (hA : XA B0 ad) (p0 : Int32) {h : xH} {K : Int32 → xH → Prop} (hw : w_X6_repeats p0 h K) : XM l yX6_repeats wsX6_repeats ({ frames := 2, cells := 0, slots := 0, locals := 43 } : Room) B0 ad D T h [.ref (ad (60)), .int (p0)] xei K 0 0 := by
  unfold XM
  refine Met.ofW (cc := cX6_repeats) (maxL := 2) (ret := (some .int)) (by decide) rfl ?_
  intro p e s m args below meth c s₁ B hml hv
  obtain ⟨rfl, hB0, hP, hK, hN⟩ := hv
  have hx := B.exec
  have hb := B.bytes
  have hr := B.returns
  have hts := atoms_spec (ws := wsX6_repeats) B.pre
  have hown : s.vm.findClass RX6 = some m.cls := findClass_of_methodNamed B.named
  have hlocks := B.notSynchronized
  have iX6 : ∀ w ∈ u_ws RX6 TX6 34, w ∈ wsX6_repeats := by decide +kernel
  have f_23 := hts (.fieldLink RX6 23 "LogSpoolerModel" "repeats" "[I") (by decide +kernel)
  have hS : va_S (fun q => B0 ≤ q) s.heap s.heap [] := va_S.rf
  have hl := lv_entry ([.ref (ad (60)), .int (p0)]) (n := 2) (Nat.le_of_ble_eq_true rfl)
  rw [lg_entry_eq]
  generalize (lg_sl ([.ref (ad (60)), .int (p0)]) ++ List.replicate (2 - (lg_sl ([.ref (ad (60)), .int (p0)])).length) Slot.unset).toArray = ls at hl ⊢
  have hl : lv_has ls 2 [(0, .ref (ad (60))), (1, .int (p0))] := hl
  unfold w_X6_repeats at hw
  refine lv_aload_n hx hb dX6_repeats_0 rfl (lv_at hl 0 rfl) ?_
  refine lv_iload_n hx hb dX6_repeats_1 rfl (lv_at hl 1 rfl) ?_
  refine xg_calli (va_runV (As := [.int (p0)]) (rest := []) ⟨hx, hb, hml, hown, hts⟩ (c_X6_isSender l hl9 hA p0 hw) (cwV 1 hts gX6_repeats_X6_isSender rfl rfl rfl (by decide +kernel) ⟨Nat.le_of_ble_eq_true rfl, Nat.le_of_ble_eq_true rfl⟩) (xg_preV hB0 hP hK hN hS xs60 rfl) rfl rfl hl.1 rfl (lv_room (Nat.le_of_ble_eq_true rfl)) dX6_repeats_2 ⟨Nat.le_of_ble_eq_true rfl, Nat.le_of_ble_eq_true rfl⟩) hS (fun r1 h2 H locs hw hP hS => ?_)
  refine lv_if_eq (tgt := 17) hx hb dX6_repeats_5 (by decide) (fun c3 => ?_) (fun c3 => ?_)
  · have hw := hw.1 c3
    refine lv_iconst (v := 0) hx hb dX6_repeats_17 (by decide) ?_
    exact xg_irets hx hb hr rfl hlocks hB0 hP hK hN hS dX6_repeats_18 (by decide) (by decide) hw
  · have hw := hw.2 c3
    refine lv_aload_n hx hb dX6_repeats_8 rfl (lv_at hl 0 rfl) ?_
    refine xg_getr (C := RX6) (TC := TX6) (N := 34) hx hb hts iX6 hown hK hP xs60 rfl 6 (by decide) f_23 (fun _ h9 => h9) rfl dX6_repeats_9 ?_
    refine lv_iload_n hx hb dX6_repeats_12 rfl (lv_at hl 1 rfl) ?_
    obtain ⟨hi4, hw⟩ := hw
    refine xg_iald hx hb hK hP xs66 hi4 dX6_repeats_13 ?_
    refine lv_goto (tgt := 18) hx hb dX6_repeats_14 (by decide) ?_
    exact xg_irets hx hb hr rfl hlocks hB0 hP hK hN hS dX6_repeats_18 (by decide) (by decide) hw
set_option maxHeartbeats 4000000 in
set_option maxRecDepth 100000 in
theorem c_X6_drops (l : Launch) (hl9 : l.stackTraces = false) {B0 : Nat} {ad : Nat → Nat} {D : va_G} {T : Nat → ClassId} (hA : XA B0 ad) (p0 : Int32) {h : xH} {K : Int32 → xH → Prop} (hw : w_X6_drops p0 h K) : XM l yX6_drops wsX6_drops ({ frames := 2, cells := 0, slots := 0, locals := 43 } : Room) B0 ad D T h [.ref (ad (60)), .int (p0)] xei K 0 0 := by
  unfold XM
  refine Met.ofW (cc := cX6_drops) (maxL := 2) (ret := (some .int)) (by decide) rfl ?_
  intro p e s m args below meth c s₁ B hml hv
  obtain ⟨rfl, hB0, hP, hK, hN⟩ := hv
  have hx := B.exec
  have hb := B.bytes
  have hr := B.returns
  have hts := atoms_spec (ws := wsX6_drops) B.pre
  have hown : s.vm.findClass RX6 = some m.cls := findClass_of_methodNamed B.named
  have hlocks := B.notSynchronized
  have iX6 : ∀ w ∈ u_ws RX6 TX6 34, w ∈ wsX6_drops := by decide +kernel
  have f_29 := hts (.fieldLink RX6 29 "LogSpoolerModel" "drops" "[I") (by decide +kernel)
  have hS : va_S (fun q => B0 ≤ q) s.heap s.heap [] := va_S.rf
  have hl := lv_entry ([.ref (ad (60)), .int (p0)]) (n := 2) (Nat.le_of_ble_eq_true rfl)
  rw [lg_entry_eq]
  generalize (lg_sl ([.ref (ad (60)), .int (p0)]) ++ List.replicate (2 - (lg_sl ([.ref (ad (60)), .int (p0)])).length) Slot.unset).toArray = ls at hl ⊢
  have hl : lv_has ls 2 [(0, .ref (ad (60))), (1, .int (p0))] := hl
  unfold w_X6_drops at hw
  refine lv_aload_n hx hb dX6_drops_0 rfl (lv_at hl 0 rfl) ?_
  refine lv_iload_n hx hb dX6_drops_1 rfl (lv_at hl 1 rfl) ?_
  refine xg_calli (va_runV (As := [.int (p0)]) (rest := []) ⟨hx, hb, hml, hown, hts⟩ (c_X6_isSender l hl9 hA p0 hw) (cwV 1 hts gX6_drops_X6_isSender rfl rfl rfl (by decide +kernel) ⟨Nat.le_of_ble_eq_true rfl, Nat.le_of_ble_eq_true rfl⟩) (xg_preV hB0 hP hK hN hS xs60 rfl) rfl rfl hl.1 rfl (lv_room (Nat.le_of_ble_eq_true rfl)) dX6_drops_2 ⟨Nat.le_of_ble_eq_true rfl, Nat.le_of_ble_eq_true rfl⟩) hS (fun r1 h2 H locs hw hP hS => ?_)
  refine lv_if_eq (tgt := 17) hx hb dX6_drops_5 (by decide) (fun c3 => ?_) (fun c3 => ?_)
  · have hw := hw.1 c3
    refine lv_iconst (v := 0) hx hb dX6_drops_17 (by decide) ?_
    exact xg_irets hx hb hr rfl hlocks hB0 hP hK hN hS dX6_drops_18 (by decide) (by decide) hw
  · have hw := hw.2 c3
    refine lv_aload_n hx hb dX6_drops_8 rfl (lv_at hl 0 rfl) ?_
    refine xg_getr (C := RX6) (TC := TX6) (N := 34) hx hb hts iX6 hown hK hP xs60 rfl 8 (by decide) f_29 (fun _ h9 => h9) rfl dX6_drops_9 ?_
    refine lv_iload_n hx hb dX6_drops_12 rfl (lv_at hl 1 rfl) ?_
    obtain ⟨hi4, hw⟩ := hw
    refine xg_iald hx hb hK hP xs68 hi4 dX6_drops_13 ?_
    refine lv_goto (tgt := 18) hx hb dX6_drops_14 (by decide) ?_
    exact xg_irets hx hb hr rfl hlocks hB0 hP hK hN hS dX6_drops_18 (by decide) (by decide) hw
set_option maxHeartbeats 4000000 in
set_option maxRecDepth 100000 in
theorem c_X6_size (l : Launch) (hl9 : l.stackTraces = false) {B0 : Nat} {ad : Nat → Nat} {D : va_G} {T : Nat → ClassId} (hA : XA B0 ad) (p0 : Int32) {h : xH} {K : Int32 → xH → Prop} (hw : w_X6_size p0 h K) : XM l yX6_size wsX6_size ({ frames := 2, cells := 0, slots := 0, locals := 42 } : Room) B0 ad D T h [.ref (ad (60)), .int (p0)] xei K 0 0 := by
  unfold XM
  refine Met.ofW (cc := cX6_size) (maxL := 2) (ret := (some .int)) (by decide) rfl ?_
  intro p e s m args below meth c s₁ B hml hv
  obtain ⟨rfl, hB0, hP, hK, hN⟩ := hv
  have hx := B.exec
  have hb := B.bytes
  have hr := B.returns
  have hts := atoms_spec (ws := wsX6_size) B.pre
  have hown : s.vm.findClass RX6 = some m.cls := findClass_of_methodNamed B.named
  have hlocks := B.notSynchronized
  have iX6 : ∀ w ∈ u_ws RX6 TX6 34, w ∈ wsX6_size := by decide +kernel
  have f_60 := hts (.fieldLink RX6 60 "LogSpoolerModel" "sizes" "[I") (by decide +kernel)
  have hS : va_S (fun q => B0 ≤ q) s.heap s.heap [] := va_S.rf
  have hl := lv_entry ([.ref (ad (60)), .int (p0)]) (n := 2) (Nat.le_of_ble_eq_true rfl)
  rw [lg_entry_eq]
  generalize (lg_sl ([.ref (ad (60)), .int (p0)]) ++ List.replicate (2 - (lg_sl ([.ref (ad (60)), .int (p0)])).length) Slot.unset).toArray = ls at hl ⊢
  have hl : lv_has ls 2 [(0, .ref (ad (60))), (1, .int (p0))] := hl
  have j_13 : ∀ (s0 : Nat) (s1 : Int32) (h : xH) (H : Heap) (locs : List Loc) (ls : Array Slot), w_X6_size_13 p0 K s0 s1 h → XP ad D T h H → va_S (fun q => B0 ≤ q) s.heap H locs → lv_has ls 2 [(0, .ref (ad (60))), (1, .int (p0))] → W p l e (headSpec wsX6_size ({ frames := 2, cells := 0, slots := 0, locals := 42 } : Room)).room s m ([.ref (ad (60)), .int (p0)] : List Value).toArray below meth c H locs 0 0 (MQ below (XQ B0 ad D T xei K) ([.ref (ad (60)), .int (p0)] : List Value).toArray s 0 0 (fun q => B0 ≤ q)) (F0 m 13 ls [.int (s1), .ref (ad (60))]) := by
    intro s0 s1 h H locs ls hw hP hS hl 
    unfold w_X6_size_13 at hw
    refine xg_calli (va_runV (As := [.int (s1)]) (rest := []) ⟨hx, hb, hml, hown, hts⟩ (c_X6_holds l hl9 hA s1 hw) (cwV 1 hts gX6_size_X6_holds rfl rfl rfl (by decide +kernel) ⟨Nat.le_of_ble_eq_true rfl, Nat.le_of_ble_eq_true rfl⟩) (xg_preV hB0 hP hK hN hS xs60 rfl) rfl rfl hl.1 rfl (lv_room (Nat.le_of_ble_eq_true rfl)) dX6_size_13 ⟨Nat.le_of_ble_eq_true rfl, Nat.le_of_ble_eq_true rfl⟩) hS (fun r4 h5 H locs hw hP hS => ?_)
    refine lv_if_eq (tgt := 28) hx hb dX6_size_16 (by decide) (fun c6 => ?_) (fun c6 => ?_)
    · have hw := hw.1 c6
      refine lv_iconst (v := 0) hx hb dX6_size_28 (by decide) ?_
      exact xg_irets hx hb hr rfl hlocks hB0 hP hK hN hS dX6_size_29 (by decide) (by decide) hw
    · have hw := hw.2 c6
      refine lv_aload_n hx hb dX6_size_19 rfl (lv_at hl 0 rfl) ?_
      refine xg_getr (C := RX6) (TC := TX6) (N := 34) hx hb hts iX6 hown hK hP xs60 rfl 18 (by decide) f_60 (fun _ h9 => h9) rfl dX6_size_20 ?_
      refine lv_iload_n hx hb dX6_size_23 rfl (lv_at hl 1 rfl) ?_
      obtain ⟨hi7, hw⟩ := hw
      refine xg_iald hx hb hK hP xs78 hi7 dX6_size_24 ?_
      refine lv_goto (tgt := 29) hx hb dX6_size_25 (by decide) ?_
      exact xg_irets hx hb hr rfl hlocks hB0 hP hK hN hS dX6_size_29 (by decide) (by decide) hw
  unfold w_X6_size at hw
  refine lv_aload_n hx hb dX6_size_0 rfl (lv_at hl 0 rfl) ?_
  refine lv_iload_n hx hb dX6_size_1 rfl (lv_at hl 1 rfl) ?_
  refine xg_calli (va_runS (As := [.int (p0)]) (rest := [.ref (ad (60))]) ⟨hx, hb, hml, hown, hts⟩ (c_X6_isFile l hl9 hA p0 hw) (va_cwS 1 hts gX6_size_X6_isFile rfl rfl rfl (by decide +kernel) ⟨Nat.le_of_ble_eq_true rfl, Nat.le_of_ble_eq_true rfl⟩) (xg_preS hB0 hP hK hN hS) rfl rfl hl.1 rfl (lv_room (Nat.le_of_ble_eq_true rfl)) dX6_size_2 ⟨Nat.le_of_ble_eq_true rfl, Nat.le_of_ble_eq_true rfl⟩) hS (fun r1 h2 H locs hw hP hS => ?_)
  refine lv_if_eq (tgt := 12) hx hb dX6_size_5 (by decide) (fun c3 => ?_) (fun c3 => ?_)
  · have hw := hw.1 c3
    refine lv_iconst (v := 1) hx hb dX6_size_12 (by decide) ?_
    exact j_13 (60) (1) _ _ _ _ hw hP hS (lv_sub hl [0, 1] rfl)
  · have hw := hw.2 c3
    refine lv_iconst (v := 0) hx hb dX6_size_8 (by decide) ?_
    refine lv_goto (tgt := 13) hx hb dX6_size_9 (by decide) ?_
    exact j_13 (60) (0) _ _ _ _ hw hP hS (lv_sub hl [0, 1] rfl)
set_option maxHeartbeats 4000000 in
set_option maxRecDepth 100000 in
theorem c_X6_isPart (l : Launch) (hl9 : l.stackTraces = false) {B0 : Nat} {ad : Nat → Nat} {D : va_G} {T : Nat → ClassId} (hA : XA B0 ad) (p0 : Int32) (p1 : Int32) {h : xH} {K : Int32 → xH → Prop} (hw : w_X6_isPart p0 p1 h K) : XM l yX6_isPart wsX6_isPart ({ frames := 2, cells := 0, slots := 0, locals := 42 } : Room) B0 ad D T h [.ref (ad (60)), .int (p0), .int (p1)] xei K 0 0 := by
  unfold XM
  refine Met.ofW (cc := cX6_isPart) (maxL := 3) (ret := (some .boolean)) (by decide) rfl ?_
  intro p e s m args below meth c s₁ B hml hv
  obtain ⟨rfl, hB0, hP, hK, hN⟩ := hv
  have hx := B.exec
  have hb := B.bytes
  have hr := B.returns
  have hts := atoms_spec (ws := wsX6_isPart) B.pre
  have hown : s.vm.findClass RX6 = some m.cls := findClass_of_methodNamed B.named
  have hlocks := B.notSynchronized
  have iX6 : ∀ w ∈ u_ws RX6 TX6 34, w ∈ wsX6_isPart := by decide +kernel
  have f_66 := hts (.fieldLink RX6 66 "LogSpoolerModel" "generations" "[I") (by decide +kernel)
  have hS : va_S (fun q => B0 ≤ q) s.heap s.heap [] := va_S.rf
  have hl := lv_entry ([.ref (ad (60)), .int (p0), .int (p1)]) (n := 3) (Nat.le_of_ble_eq_true rfl)
  rw [lg_entry_eq]
  generalize (lg_sl ([.ref (ad (60)), .int (p0), .int (p1)]) ++ List.replicate (3 - (lg_sl ([.ref (ad (60)), .int (p0), .int (p1)])).length) Slot.unset).toArray = ls at hl ⊢
  have hl : lv_has ls 3 [(0, .ref (ad (60))), (1, .int (p0)), (2, .int (p1))] := hl
  unfold w_X6_isPart at hw
  refine lv_iload_n hx hb dX6_isPart_0 rfl (lv_at hl 1 rfl) ?_
  refine xg_calli (va_runS (As := [.int (p0)]) (rest := []) ⟨hx, hb, hml, hown, hts⟩ (c_X6_isFile l hl9 hA p0 hw) (va_cwS 1 hts gX6_isPart_X6_isFile rfl rfl rfl (by decide +kernel) ⟨Nat.le_of_ble_eq_true rfl, Nat.le_of_ble_eq_true rfl⟩) (xg_preS hB0 hP hK hN hS) rfl rfl hl.1 rfl (lv_room (Nat.le_of_ble_eq_true rfl)) dX6_isPart_1 ⟨Nat.le_of_ble_eq_true rfl, Nat.le_of_ble_eq_true rfl⟩) hS (fun r1 h2 H locs hw hP hS => ?_)
  refine lv_if_eq (tgt := 26) hx hb dX6_isPart_4 (by decide) (fun c3 => ?_) (fun c3 => ?_)
  · have hw := hw.1 c3
    refine lv_iconst (v := 0) hx hb dX6_isPart_26 (by decide) ?_
    exact xg_irets hx hb hr rfl hlocks hB0 hP hK hN hS dX6_isPart_27 (by decide) (by decide) hw
  · have hw := hw.2 c3
    refine lv_iload_n hx hb dX6_isPart_7 rfl (lv_at hl 2 rfl) ?_
    refine lv_iconst (v := (-1)) hx hb dX6_isPart_8 (by decide) ?_
    refine lv_icmp_lt (tgt := 26) hx hb dX6_isPart_9 (by decide) (fun c4 => ?_) (fun c4 => ?_)
    · have hw := hw.1 c4
      refine lv_iconst (v := 0) hx hb dX6_isPart_26 (by decide) ?_
      exact xg_irets hx hb hr rfl hlocks hB0 hP hK hN hS dX6_isPart_27 (by decide) (by decide) hw
    · have hw := hw.2 c4
      refine lv_iload_n hx hb dX6_isPart_12 rfl (lv_at hl 2 rfl) ?_
      refine lv_aload_n hx hb dX6_isPart_13 rfl (lv_at hl 0 rfl) ?_
      refine xg_getr (C := RX6) (TC := TX6) (N := 34) hx hb hts iX6 hown hK hP xs60 rfl 20 (by decide) f_66 (fun _ h9 => h9) rfl dX6_isPart_14 ?_
      refine lv_iload_n hx hb dX6_isPart_17 rfl (lv_at hl 1 rfl) ?_
      obtain ⟨hi5, hw⟩ := hw
      refine xg_iald hx hb hK hP xs80 hi5 dX6_isPart_18 ?_
      refine lv_icmp_ge (tgt := 26) hx hb dX6_isPart_19 (by decide) (fun c6 => ?_) (fun c6 => ?_)
      · have hw := hw.1 c6
        refine lv_iconst (v := 0) hx hb dX6_isPart_26 (by decide) ?_
        exact xg_irets hx hb hr rfl hlocks hB0 hP hK hN hS dX6_isPart_27 (by decide) (by decide) hw
      · have hw := hw.2 c6
        refine lv_iconst (v := 1) hx hb dX6_isPart_22 (by decide) ?_
        refine lv_goto (tgt := 27) hx hb dX6_isPart_23 (by decide) ?_
        exact xg_irets hx hb hr rfl hlocks hB0 hP hK hN hS dX6_isPart_27 (by decide) (by decide) hw
set_option maxHeartbeats 4000000 in
set_option maxRecDepth 100000 in
theorem c_X6_startOf (l : Launch) (hl9 : l.stackTraces = false) {B0 : Nat} {ad : Nat → Nat} {D : va_G} {T : Nat → ClassId} (hA : XA B0 ad) (p0 : Int32) (p1 : Int32) {h : xH} {K : Int32 → xH → Prop} (hw : w_X6_startOf p0 p1 h K) : XM l yX6_startOf wsX6_startOf ({ frames := 0, cells := 0, slots := 0, locals := 0 } : Room) B0 ad D T h [.ref (ad (60)), .int (p0), .int (p1)] xei K 0 0 := by
  unfold XM
  refine Met.ofW (cc := cX6_startOf) (maxL := 3) (ret := (some .int)) (by decide) rfl ?_
  intro p e s m args below meth c s₁ B hml hv
  obtain ⟨rfl, hB0, hP, hK, hN⟩ := hv
  have hx := B.exec
  have hb := B.bytes
  have hr := B.returns
  have hts := atoms_spec (ws := wsX6_startOf) B.pre
  have hown : s.vm.findClass RX6 = some m.cls := findClass_of_methodNamed B.named
  have hlocks := B.notSynchronized
  have iX6 : ∀ w ∈ u_ws RX6 TX6 34, w ∈ wsX6_startOf := by decide +kernel
  have f_69 := hts (.fieldLink RX6 69 "LogSpoolerModel" "starts" "[I") (by decide +kernel)
  have hS : va_S (fun q => B0 ≤ q) s.heap s.heap [] := va_S.rf
  have hl := lv_entry ([.ref (ad (60)), .int (p0), .int (p1)]) (n := 3) (Nat.le_of_ble_eq_true rfl)
  rw [lg_entry_eq]
  generalize (lg_sl ([.ref (ad (60)), .int (p0), .int (p1)]) ++ List.replicate (3 - (lg_sl ([.ref (ad (60)), .int (p0), .int (p1)])).length) Slot.unset).toArray = ls at hl ⊢
  have hl : lv_has ls 3 [(0, .ref (ad (60))), (1, .int (p0)), (2, .int (p1))] := hl
  unfold w_X6_startOf at hw
  refine lv_aload_n hx hb dX6_startOf_0 rfl (lv_at hl 0 rfl) ?_
  refine xg_getr (C := RX6) (TC := TX6) (N := 34) hx hb hts iX6 hown hK hP xs60 rfl 21 (by decide) f_69 (fun _ h9 => h9) rfl dX6_startOf_1 ?_
  refine lv_bipush (v := 7) hx hb dX6_startOf_4 (by decide) ?_
  refine lv_iload_n hx hb dX6_startOf_6 rfl (lv_at hl 1 rfl) ?_
  refine lv_imul hx hb dX6_startOf_7 ?_
  refine lv_iload_n hx hb dX6_startOf_8 rfl (lv_at hl 2 rfl) ?_
  refine lv_iadd hx hb dX6_startOf_9 ?_
  refine lv_iconst (v := 1) hx hb dX6_startOf_10 (by decide) ?_
  refine lv_iadd hx hb dX6_startOf_11 ?_
  obtain ⟨hi1, hw⟩ := hw
  refine xg_iald hx hb hK hP xs81 hi1 dX6_startOf_12 ?_
  exact xg_irets hx hb hr rfl hlocks hB0 hP hK hN hS dX6_startOf_13 (by decide) (by decide) hw
set_option maxHeartbeats 4000000 in
set_option maxRecDepth 100000 in
theorem c_X6_endOf (l : Launch) (hl9 : l.stackTraces = false) {B0 : Nat} {ad : Nat → Nat} {D : va_G} {T : Nat → ClassId} (hA : XA B0 ad) (p0 : Int32) (p1 : Int32) {h : xH} {K : Int32 → xH → Prop} (hw : w_X6_endOf p0 p1 h K) : XM l yX6_endOf wsX6_endOf ({ frames := 0, cells := 0, slots := 0, locals := 0 } : Room) B0 ad D T h [.ref (ad (60)), .int (p0), .int (p1)] xei K 0 0 := by
  unfold XM
  refine Met.ofW (cc := cX6_endOf) (maxL := 3) (ret := (some .int)) (by decide) rfl ?_
  intro p e s m args below meth c s₁ B hml hv
  obtain ⟨rfl, hB0, hP, hK, hN⟩ := hv
  have hx := B.exec
  have hb := B.bytes
  have hr := B.returns
  have hts := atoms_spec (ws := wsX6_endOf) B.pre
  have hown : s.vm.findClass RX6 = some m.cls := findClass_of_methodNamed B.named
  have hlocks := B.notSynchronized
  have iX6 : ∀ w ∈ u_ws RX6 TX6 34, w ∈ wsX6_endOf := by decide +kernel
  have f_63 := hts (.fieldLink RX6 63 "LogSpoolerModel" "ends" "[I") (by decide +kernel)
  have f_69 := hts (.fieldLink RX6 69 "LogSpoolerModel" "starts" "[I") (by decide +kernel)
  have hS : va_S (fun q => B0 ≤ q) s.heap s.heap [] := va_S.rf
  have hl := lv_entry ([.ref (ad (60)), .int (p0), .int (p1)]) (n := 3) (Nat.le_of_ble_eq_true rfl)
  rw [lg_entry_eq]
  generalize (lg_sl ([.ref (ad (60)), .int (p0), .int (p1)]) ++ List.replicate (3 - (lg_sl ([.ref (ad (60)), .int (p0), .int (p1)])).length) Slot.unset).toArray = ls at hl ⊢
  have hl : lv_has ls 3 [(0, .ref (ad (60))), (1, .int (p0)), (2, .int (p1))] := hl
  unfold w_X6_endOf at hw
  refine lv_iload_n hx hb dX6_endOf_0 rfl (lv_at hl 2 rfl) ?_
  refine lv_iconst (v := (-1)) hx hb dX6_endOf_1 (by decide) ?_
  refine lv_icmp_ne (tgt := 14) hx hb dX6_endOf_2 (by decide) (fun c1 => ?_) (fun c1 => ?_)
  · have hw := hw.2 c1
    refine lv_aload_n hx hb dX6_endOf_14 rfl (lv_at hl 0 rfl) ?_
    refine xg_getr (C := RX6) (TC := TX6) (N := 34) hx hb hts iX6 hown hK hP xs60 rfl 21 (by decide) f_69 (fun _ h9 => h9) rfl dX6_endOf_15 ?_
    refine lv_bipush (v := 7) hx hb dX6_endOf_18 (by decide) ?_
    refine lv_iload_n hx hb dX6_endOf_20 rfl (lv_at hl 1 rfl) ?_
    refine lv_imul hx hb dX6_endOf_21 ?_
    refine lv_iload_n hx hb dX6_endOf_22 rfl (lv_at hl 2 rfl) ?_
    refine lv_iadd hx hb dX6_endOf_23 ?_
    obtain ⟨hi2, hw⟩ := hw
    refine xg_iald hx hb hK hP xs81 hi2 dX6_endOf_24 ?_
    exact xg_irets hx hb hr rfl hlocks hB0 hP hK hN hS dX6_endOf_25 (by decide) (by decide) hw
  · have hw := hw.1 c1
    refine lv_aload_n hx hb dX6_endOf_5 rfl (lv_at hl 0 rfl) ?_
    refine xg_getr (C := RX6) (TC := TX6) (N := 34) hx hb hts iX6 hown hK hP xs60 rfl 19 (by decide) f_63 (fun _ h9 => h9) rfl dX6_endOf_6 ?_
    refine lv_iload_n hx hb dX6_endOf_9 rfl (lv_at hl 1 rfl) ?_
    obtain ⟨hi3, hw⟩ := hw
    refine xg_iald hx hb hK hP xs79 hi3 dX6_endOf_10 ?_
    refine lv_goto (tgt := 25) hx hb dX6_endOf_11 (by decide) ?_
    exact xg_irets hx hb hr rfl hlocks hB0 hP hK hN hS dX6_endOf_25 (by decide) (by decide) hw
set_option maxHeartbeats 4000000 in
set_option maxRecDepth 100000 in
theorem c_X6_lines (l : Launch) (hl9 : l.stackTraces = false) {B0 : Nat} {ad : Nat → Nat} {D : va_G} {T : Nat → ClassId} (hA : XA B0 ad) (p0 : Int32) (p1 : Int32) {h : xH} {K : Int32 → xH → Prop} (hw : w_X6_lines p0 p1 h K) : XM l yX6_lines wsX6_lines ({ frames := 3, cells := 0, slots := 0, locals := 64 } : Room) B0 ad D T h [.ref (ad (60)), .int (p0), .int (p1)] xei K 0 0 := by
  unfold XM
  refine Met.ofW (cc := cX6_lines) (maxL := 3) (ret := (some .int)) (by decide) rfl ?_
  intro p e s m args below meth c s₁ B hml hv
  obtain ⟨rfl, hB0, hP, hK, hN⟩ := hv
  have hx := B.exec
  have hb := B.bytes
  have hr := B.returns
  have hts := atoms_spec (ws := wsX6_lines) B.pre
  have hown : s.vm.findClass RX6 = some m.cls := findClass_of_methodNamed B.named
  have hlocks := B.notSynchronized
  have hS : va_S (fun q => B0 ≤ q) s.heap s.heap [] := va_S.rf
  have hl := lv_entry ([.ref (ad (60)), .int (p0), .int (p1)]) (n := 3) (Nat.le_of_ble_eq_true rfl)
  rw [lg_entry_eq]
  generalize (lg_sl ([.ref (ad (60)), .int (p0), .int (p1)]) ++ List.replicate (3 - (lg_sl ([.ref (ad (60)), .int (p0), .int (p1)])).length) Slot.unset).toArray = ls at hl ⊢
  have hl : lv_has ls 3 [(0, .ref (ad (60))), (1, .int (p0)), (2, .int (p1))] := hl
  have j_15 : ∀ (s0 : Nat) (s1 : Int32) (h : xH) (H : Heap) (locs : List Loc) (ls : Array Slot), w_X6_lines_15 p0 p1 K s0 s1 h → XP ad D T h H → va_S (fun q => B0 ≤ q) s.heap H locs → lv_has ls 3 [(0, .ref (ad (60))), (1, .int (p0)), (2, .int (p1))] → W p l e (headSpec wsX6_lines ({ frames := 3, cells := 0, slots := 0, locals := 64 } : Room)).room s m ([.ref (ad (60)), .int (p0), .int (p1)] : List Value).toArray below meth c H locs 0 0 (MQ below (XQ B0 ad D T xei K) ([.ref (ad (60)), .int (p0), .int (p1)] : List Value).toArray s 0 0 (fun q => B0 ≤ q)) (F0 m 15 ls [.int (s1), .ref (ad (60))]) := by
    intro s0 s1 h H locs ls hw hP hS hl 
    unfold w_X6_lines_15 at hw
    refine xg_calli (va_runV (As := [.int (s1)]) (rest := []) ⟨hx, hb, hml, hown, hts⟩ (c_X6_holds l hl9 hA s1 hw) (cwV 1 hts gX6_lines_X6_holds rfl rfl rfl (by decide +kernel) ⟨Nat.le_of_ble_eq_true rfl, Nat.le_of_ble_eq_true rfl⟩) (xg_preV hB0 hP hK hN hS xs60 rfl) rfl rfl hl.1 rfl (lv_room (Nat.le_of_ble_eq_true rfl)) dX6_lines_15 ⟨Nat.le_of_ble_eq_true rfl, Nat.le_of_ble_eq_true rfl⟩) hS (fun r4 h5 H locs hw hP hS => ?_)
    refine lv_if_eq (tgt := 37) hx hb dX6_lines_18 (by decide) (fun c6 => ?_) (fun c6 => ?_)
    · have hw := hw.1 c6
      refine lv_iconst (v := 0) hx hb dX6_lines_37 (by decide) ?_
      exact xg_irets hx hb hr rfl hlocks hB0 hP hK hN hS dX6_lines_38 (by decide) (by decide) hw
    · have hw := hw.2 c6
      refine lv_aload_n hx hb dX6_lines_21 rfl (lv_at hl 0 rfl) ?_
      refine lv_iload_n hx hb dX6_lines_22 rfl (lv_at hl 1 rfl) ?_
      refine lv_iload_n hx hb dX6_lines_23 rfl (lv_at hl 2 rfl) ?_
      refine xg_calli (va_runV (As := [.int (p0), .int (p1)]) (rest := []) ⟨hx, hb, hml, hown, hts⟩ (c_X6_endOf l hl9 hA p0 p1 hw) (cwV 2 hts gX6_lines_X6_endOf rfl rfl rfl (by decide +kernel) ⟨Nat.le_of_ble_eq_true rfl, Nat.le_of_ble_eq_true rfl⟩) (xg_preV hB0 hP hK hN hS xs60 rfl) rfl rfl hl.1 rfl (lv_room (Nat.le_of_ble_eq_true rfl)) dX6_lines_24 ⟨Nat.le_of_ble_eq_true rfl, Nat.le_of_ble_eq_true rfl⟩) hS (fun r7 h8 H locs hw hP hS => ?_)
      refine lv_aload_n hx hb dX6_lines_27 rfl (lv_at hl 0 rfl) ?_
      refine lv_iload_n hx hb dX6_lines_28 rfl (lv_at hl 1 rfl) ?_
      refine lv_iload_n hx hb dX6_lines_29 rfl (lv_at hl 2 rfl) ?_
      refine xg_calli (va_runV (As := [.int (p0), .int (p1)]) (rest := [.int (r7)]) ⟨hx, hb, hml, hown, hts⟩ (c_X6_startOf l hl9 hA p0 p1 hw) (cwV 2 hts gX6_lines_X6_startOf rfl rfl rfl (by decide +kernel) ⟨Nat.le_of_ble_eq_true rfl, Nat.le_of_ble_eq_true rfl⟩) (xg_preV hB0 hP hK hN hS xs60 rfl) rfl rfl hl.1 rfl (lv_room (Nat.le_of_ble_eq_true rfl)) dX6_lines_30 ⟨Nat.le_of_ble_eq_true rfl, Nat.le_of_ble_eq_true rfl⟩) hS (fun r9 h10 H locs hw hP hS => ?_)
      refine lv_isub hx hb dX6_lines_33 ?_
      refine lv_goto (tgt := 38) hx hb dX6_lines_34 (by decide) ?_
      exact xg_irets hx hb hr rfl hlocks hB0 hP hK hN hS dX6_lines_38 (by decide) (by decide) hw
  unfold w_X6_lines at hw
  refine lv_aload_n hx hb dX6_lines_0 rfl (lv_at hl 0 rfl) ?_
  refine lv_aload_n hx hb dX6_lines_1 rfl (lv_at hl 0 rfl) ?_
  refine lv_iload_n hx hb dX6_lines_2 rfl (lv_at hl 1 rfl) ?_
  refine lv_iload_n hx hb dX6_lines_3 rfl (lv_at hl 2 rfl) ?_
  refine xg_calli (va_runV (As := [.int (p0), .int (p1)]) (rest := [.ref (ad (60))]) ⟨hx, hb, hml, hown, hts⟩ (c_X6_isPart l hl9 hA p0 p1 hw) (cwV 2 hts gX6_lines_X6_isPart rfl rfl rfl (by decide +kernel) ⟨Nat.le_of_ble_eq_true rfl, Nat.le_of_ble_eq_true rfl⟩) (xg_preV hB0 hP hK hN hS xs60 rfl) rfl rfl hl.1 rfl (lv_room (Nat.le_of_ble_eq_true rfl)) dX6_lines_4 ⟨Nat.le_of_ble_eq_true rfl, Nat.le_of_ble_eq_true rfl⟩) hS (fun r1 h2 H locs hw hP hS => ?_)
  refine lv_if_eq (tgt := 14) hx hb dX6_lines_7 (by decide) (fun c3 => ?_) (fun c3 => ?_)
  · have hw := hw.1 c3
    refine lv_iconst (v := 1) hx hb dX6_lines_14 (by decide) ?_
    exact j_15 (60) (1) _ _ _ _ hw hP hS (lv_sub hl [0, 1, 2] rfl)
  · have hw := hw.2 c3
    refine lv_iconst (v := 0) hx hb dX6_lines_10 (by decide) ?_
    refine lv_goto (tgt := 15) hx hb dX6_lines_11 (by decide) ?_
    exact j_15 (60) (0) _ _ _ _ hw hP hS (lv_sub hl [0, 1, 2] rfl)
set_option maxHeartbeats 4000000 in
set_option maxRecDepth 100000 in
theorem c_X6_line (l : Launch) (hl9 : l.stackTraces = false) {B0 : Nat} {ad : Nat → Nat} {D : va_G} {T : Nat → ClassId} (hA : XA B0 ad) (p0 : Int32) (p1 : Int32) (p2 : Int32) {h : xH} {K : Int32 → xH → Prop} (hw : w_X6_line p0 p1 p2 h K) : XM l yX6_line wsX6_line ({ frames := 3, cells := 0, slots := 0, locals := 64 } : Room) B0 ad D T h [.ref (ad (60)), .int (p0), .int (p1), .int (p2)] xei K 0 0 := by
  unfold XM
  refine Met.ofW (cc := cX6_line) (maxL := 5) (ret := (some .int)) (by decide) rfl ?_
  intro p e s m args below meth c s₁ B hml hv
  obtain ⟨rfl, hB0, hP, hK, hN⟩ := hv
  have hx := B.exec
  have hb := B.bytes
  have hr := B.returns
  have hts := atoms_spec (ws := wsX6_line) B.pre
  have hown : s.vm.findClass RX6 = some m.cls := findClass_of_methodNamed B.named
  have hlocks := B.notSynchronized
  have iX6 : ∀ w ∈ u_ws RX6 TX6 34, w ∈ wsX6_line := by decide +kernel
  have f_72 := hts (.fieldLink RX6 72 "LogSpoolerModel" "lines" "[I") (by decide +kernel)
  have hS : va_S (fun q => B0 ≤ q) s.heap s.heap [] := va_S.rf
  have hl := lv_entry ([.ref (ad (60)), .int (p0), .int (p1), .int (p2)]) (n := 5) (Nat.le_of_ble_eq_true rfl)
  rw [lg_entry_eq]
  generalize (lg_sl ([.ref (ad (60)), .int (p0), .int (p1), .int (p2)]) ++ List.replicate (5 - (lg_sl ([.ref (ad (60)), .int (p0), .int (p1), .int (p2)])).length) Slot.unset).toArray = ls at hl ⊢
  have hl : lv_has ls 5 [(0, .ref (ad (60))), (1, .int (p0)), (2, .int (p1)), (3, .int (p2))] := hl
  have j_40 : ∀ (s0 : Nat) (s1 : Int32) (h : xH) (H : Heap) (locs : List Loc) (ls : Array Slot), w_X6_line_40 p0 p1 p2 K s0 s1 h → XP ad D T h H → va_S (fun q => B0 ≤ q) s.heap H locs → lv_has ls 5 [(0, .ref (ad (60))), (1, .int (p0)), (2, .int (p1)), (3, .int (p2))] → W p l e (headSpec wsX6_line ({ frames := 3, cells := 0, slots := 0, locals := 64 } : Room)).room s m ([.ref (ad (60)), .int (p0), .int (p1), .int (p2)] : List Value).toArray below meth c H locs 0 0 (MQ below (XQ B0 ad D T xei K) ([.ref (ad (60)), .int (p0), .int (p1), .int (p2)] : List Value).toArray s 0 0 (fun q => B0 ≤ q)) (F0 m 40 ls [.int (s1), .ref (ad (60))]) := by
    intro s0 s1 h H locs ls hw hP hS hl 
    unfold w_X6_line_40 at hw
    refine xg_calli (va_runV (As := [.int (s1)]) (rest := []) ⟨hx, hb, hml, hown, hts⟩ (c_X6_holds l hl9 hA s1 hw) (cwV 1 hts gX6_line_X6_holds rfl rfl rfl (by decide +kernel) ⟨Nat.le_of_ble_eq_true rfl, Nat.le_of_ble_eq_true rfl⟩) (xg_preV hB0 hP hK hN hS xs60 rfl) rfl rfl hl.1 rfl (lv_room (Nat.le_of_ble_eq_true rfl)) dX6_line_40 ⟨Nat.le_of_ble_eq_true rfl, Nat.le_of_ble_eq_true rfl⟩) hS (fun r10 h11 H locs hw hP hS => ?_)
    refine lv_if_ne (tgt := 48) hx hb dX6_line_43 (by decide) (fun c12 => ?_) (fun c12 => ?_)
    · have hw := hw.2 c12
      refine lv_aload_n hx hb dX6_line_48 rfl (lv_at hl 0 rfl) ?_
      refine xg_getr (C := RX6) (TC := TX6) (N := 34) hx hb hts iX6 hown hK hP xs60 rfl 22 (by decide) f_72 (fun _ h9 => h9) rfl dX6_line_49 ?_
      refine lv_sipush (v := 400) hx hb dX6_line_52 (by decide) ?_
      refine lv_iload_n hx hb dX6_line_55 rfl (lv_at hl 1 rfl) ?_
      refine lv_imul hx hb dX6_line_56 ?_
      refine lv_aload_n hx hb dX6_line_57 rfl (lv_at hl 0 rfl) ?_
      refine lv_iload_n hx hb dX6_line_58 rfl (lv_at hl 1 rfl) ?_
      refine lv_iload_n hx hb dX6_line_59 rfl (lv_at hl 2 rfl) ?_
      refine xg_calli (va_runV (As := [.int (p0), .int (p1)]) (rest := [.int (((400 : Int32) * p0)), .ref (ad (82))]) ⟨hx, hb, hml, hown, hts⟩ (c_X6_startOf l hl9 hA p0 p1 hw) (cwV 2 hts gX6_line_X6_startOf rfl rfl rfl (by decide +kernel) ⟨Nat.le_of_ble_eq_true rfl, Nat.le_of_ble_eq_true rfl⟩) (xg_preV hB0 hP hK hN hS xs60 rfl) rfl rfl hl.1 rfl (lv_room (Nat.le_of_ble_eq_true rfl)) dX6_line_60 ⟨Nat.le_of_ble_eq_true rfl, Nat.le_of_ble_eq_true rfl⟩) hS (fun r13 h14 H locs hw hP hS => ?_)
      refine lv_iadd hx hb dX6_line_63 ?_
      refine lv_iload_n hx hb dX6_line_64 rfl (lv_at hl 3 rfl) ?_
      refine lv_iadd hx hb dX6_line_65 ?_
      obtain ⟨hi15, hw⟩ := hw
      refine xg_iald hx hb hK hP xs82 hi15 dX6_line_66 ?_
      exact xg_irets hx hb hr rfl hlocks hB0 hP hK hN hS dX6_line_67 (by decide) (by decide) hw
    · have hw := hw.1 c12
      refine lv_iconst (v := 0) hx hb dX6_line_46 (by decide) ?_
      exact xg_irets hx hb hr rfl hlocks hB0 hP hK hN hS dX6_line_47 (by decide) (by decide) hw
  have j_39 : ∀ (s0 : Nat) (h : xH) (H : Heap) (locs : List Loc) (ls : Array Slot), w_X6_line_39 p0 p1 p2 K s0 h → XP ad D T h H → va_S (fun q => B0 ≤ q) s.heap H locs → lv_has ls 5 [(0, .ref (ad (60))), (1, .int (p0)), (2, .int (p1)), (3, .int (p2))] → W p l e (headSpec wsX6_line ({ frames := 3, cells := 0, slots := 0, locals := 64 } : Room)).room s m ([.ref (ad (60)), .int (p0), .int (p1), .int (p2)] : List Value).toArray below meth c H locs 0 0 (MQ below (XQ B0 ad D T xei K) ([.ref (ad (60)), .int (p0), .int (p1), .int (p2)] : List Value).toArray s 0 0 (fun q => B0 ≤ q)) (F0 m 39 ls [.ref (ad (60))]) := by
    intro s0 h H locs ls hw hP hS hl 
    unfold w_X6_line_39 at hw
    refine lv_iconst (v := 1) hx hb dX6_line_39 (by decide) ?_
    exact j_40 (60) (1) _ _ _ _ hw hP hS (lv_sub hl [0, 1, 2, 3] rfl)
  unfold w_X6_line at hw
  refine lv_aload_n hx hb dX6_line_0 rfl (lv_at hl 0 rfl) ?_
  refine lv_iload_n hx hb dX6_line_1 rfl (lv_at hl 1 rfl) ?_
  refine lv_iload_n hx hb dX6_line_2 rfl (lv_at hl 2 rfl) ?_
  refine xg_calli (va_runV (As := [.int (p0), .int (p1)]) (rest := []) ⟨hx, hb, hml, hown, hts⟩ (c_X6_isPart l hl9 hA p0 p1 hw) (cwV 2 hts gX6_line_X6_isPart rfl rfl rfl (by decide +kernel) ⟨Nat.le_of_ble_eq_true rfl, Nat.le_of_ble_eq_true rfl⟩) (xg_preV hB0 hP hK hN hS xs60 rfl) rfl rfl hl.1 rfl (lv_room (Nat.le_of_ble_eq_true rfl)) dX6_line_3 ⟨Nat.le_of_ble_eq_true rfl, Nat.le_of_ble_eq_true rfl⟩) hS (fun r1 h2 H locs hw hP hS => ?_)
  refine lv_istore (lv' := [(4, .int (r1)), (0, .ref (ad (60))), (1, .int (p0)), (2, .int (p1)), (3, .int (p2))]) hx hb dX6_line_6 hl (by decide) rfl (fun ls hl => ?_)
  refine lv_aload_n hx hb dX6_line_8 rfl (lv_at hl 1 rfl) ?_
  refine lv_iload hx hb dX6_line_9 (lv_at hl 0 rfl) ?_
  refine lv_if_eq (tgt := 39) hx hb dX6_line_11 (by decide) (fun c3 => ?_) (fun c3 => ?_)
  · have hw := hw.1 c3
    exact j_39 (60) _ _ _ _ hw hP hS (lv_sub hl [1, 2, 3, 4] rfl)
  · have hw := hw.2 c3
    refine lv_iload_n hx hb dX6_line_14 rfl (lv_at hl 4 rfl) ?_
    refine lv_if_lt (tgt := 39) hx hb dX6_line_15 (by decide) (fun c4 => ?_) (fun c4 => ?_)
    · have hw := hw.1 c4
      exact j_39 (60) _ _ _ _ hw hP hS (lv_sub hl [1, 2, 3, 4] rfl)
    · have hw := hw.2 c4
      refine lv_iload_n hx hb dX6_line_18 rfl (lv_at hl 4 rfl) ?_
      refine lv_aload_n hx hb dX6_line_19 rfl (lv_at hl 1 rfl) ?_
      refine lv_iload_n hx hb dX6_line_20 rfl (lv_at hl 2 rfl) ?_
      refine lv_iload_n hx hb dX6_line_21 rfl (lv_at hl 3 rfl) ?_
      refine xg_calli (va_runV (As := [.int (p0), .int (p1)]) (rest := [.int (p2), .ref (ad (60))]) ⟨hx, hb, hml, hown, hts⟩ (c_X6_endOf l hl9 hA p0 p1 hw) (cwV 2 hts gX6_line_X6_endOf rfl rfl rfl (by decide +kernel) ⟨Nat.le_of_ble_eq_true rfl, Nat.le_of_ble_eq_true rfl⟩) (xg_preV hB0 hP hK hN hS xs60 rfl) rfl rfl hl.1 rfl (lv_room (Nat.le_of_ble_eq_true rfl)) dX6_line_22 ⟨Nat.le_of_ble_eq_true rfl, Nat.le_of_ble_eq_true rfl⟩) hS (fun r5 h6 H locs hw hP hS => ?_)
      refine lv_aload_n hx hb dX6_line_25 rfl (lv_at hl 1 rfl) ?_
      refine lv_iload_n hx hb dX6_line_26 rfl (lv_at hl 2 rfl) ?_
      refine lv_iload_n hx hb dX6_line_27 rfl (lv_at hl 3 rfl) ?_
      refine xg_calli (va_runV (As := [.int (p0), .int (p1)]) (rest := [.int (r5), .int (p2), .ref (ad (60))]) ⟨hx, hb, hml, hown, hts⟩ (c_X6_startOf l hl9 hA p0 p1 hw) (cwV 2 hts gX6_line_X6_startOf rfl rfl rfl (by decide +kernel) ⟨Nat.le_of_ble_eq_true rfl, Nat.le_of_ble_eq_true rfl⟩) (xg_preV hB0 hP hK hN hS xs60 rfl) rfl rfl hl.1 rfl (lv_room (Nat.le_of_ble_eq_true rfl)) dX6_line_28 ⟨Nat.le_of_ble_eq_true rfl, Nat.le_of_ble_eq_true rfl⟩) hS (fun r7 h8 H locs hw hP hS => ?_)
      refine lv_isub hx hb dX6_line_31 ?_
      refine lv_icmp_ge (tgt := 39) hx hb dX6_line_32 (by decide) (fun c9 => ?_) (fun c9 => ?_)
      · have hw := hw.1 c9
        exact j_39 (60) _ _ _ _ hw hP hS (lv_sub hl [1, 2, 3, 4] rfl)
      · have hw := hw.2 c9
        refine lv_iconst (v := 0) hx hb dX6_line_35 (by decide) ?_
        refine lv_goto (tgt := 40) hx hb dX6_line_36 (by decide) ?_
        exact j_40 (60) (0) _ _ _ _ hw hP hS (lv_sub hl [1, 2, 3, 4] rfl)
set_option maxHeartbeats 4000000 in
set_option maxRecDepth 100000 in
theorem c_X6_generations (l : Launch) (hl9 : l.stackTraces = false) {B0 : Nat} {ad : Nat → Nat} {D : va_G} {T : Nat → ClassId} (hA : XA B0 ad) (p0 : Int32) {h : xH} {K : Int32 → xH → Prop} (hw : w_X6_generations p0 h K) : XM l yX6_generations wsX6_generations ({ frames := 2, cells := 0, slots := 0, locals := 42 } : Room) B0 ad D T h [.ref (ad (60)), .int (p0)] xei K 0 0 := by
  unfold XM
  refine Met.ofW (cc := cX6_generations) (maxL := 2) (ret := (some .int)) (by decide) rfl ?_
  intro p e s m args below meth c s₁ B hml hv
  obtain ⟨rfl, hB0, hP, hK, hN⟩ := hv
  have hx := B.exec
  have hb := B.bytes
  have hr := B.returns
  have hts := atoms_spec (ws := wsX6_generations) B.pre
  have hown : s.vm.findClass RX6 = some m.cls := findClass_of_methodNamed B.named
  have hlocks := B.notSynchronized
  have iX6 : ∀ w ∈ u_ws RX6 TX6 34, w ∈ wsX6_generations := by decide +kernel
  have f_66 := hts (.fieldLink RX6 66 "LogSpoolerModel" "generations" "[I") (by decide +kernel)
  have hS : va_S (fun q => B0 ≤ q) s.heap s.heap [] := va_S.rf
  have hl := lv_entry ([.ref (ad (60)), .int (p0)]) (n := 2) (Nat.le_of_ble_eq_true rfl)
  rw [lg_entry_eq]
  generalize (lg_sl ([.ref (ad (60)), .int (p0)]) ++ List.replicate (2 - (lg_sl ([.ref (ad (60)), .int (p0)])).length) Slot.unset).toArray = ls at hl ⊢
  have hl : lv_has ls 2 [(0, .ref (ad (60))), (1, .int (p0))] := hl
  have j_13 : ∀ (s0 : Nat) (s1 : Int32) (h : xH) (H : Heap) (locs : List Loc) (ls : Array Slot), w_X6_generations_13 p0 K s0 s1 h → XP ad D T h H → va_S (fun q => B0 ≤ q) s.heap H locs → lv_has ls 2 [(0, .ref (ad (60))), (1, .int (p0))] → W p l e (headSpec wsX6_generations ({ frames := 2, cells := 0, slots := 0, locals := 42 } : Room)).room s m ([.ref (ad (60)), .int (p0)] : List Value).toArray below meth c H locs 0 0 (MQ below (XQ B0 ad D T xei K) ([.ref (ad (60)), .int (p0)] : List Value).toArray s 0 0 (fun q => B0 ≤ q)) (F0 m 13 ls [.int (s1), .ref (ad (60))]) := by
    intro s0 s1 h H locs ls hw hP hS hl 
    unfold w_X6_generations_13 at hw
    refine xg_calli (va_runV (As := [.int (s1)]) (rest := []) ⟨hx, hb, hml, hown, hts⟩ (c_X6_holds l hl9 hA s1 hw) (cwV 1 hts gX6_generations_X6_holds rfl rfl rfl (by decide +kernel) ⟨Nat.le_of_ble_eq_true rfl, Nat.le_of_ble_eq_true rfl⟩) (xg_preV hB0 hP hK hN hS xs60 rfl) rfl rfl hl.1 rfl (lv_room (Nat.le_of_ble_eq_true rfl)) dX6_generations_13 ⟨Nat.le_of_ble_eq_true rfl, Nat.le_of_ble_eq_true rfl⟩) hS (fun r4 h5 H locs hw hP hS => ?_)
    refine lv_if_eq (tgt := 28) hx hb dX6_generations_16 (by decide) (fun c6 => ?_) (fun c6 => ?_)
    · have hw := hw.1 c6
      refine lv_iconst (v := 0) hx hb dX6_generations_28 (by decide) ?_
      exact xg_irets hx hb hr rfl hlocks hB0 hP hK hN hS dX6_generations_29 (by decide) (by decide) hw
    · have hw := hw.2 c6
      refine lv_aload_n hx hb dX6_generations_19 rfl (lv_at hl 0 rfl) ?_
      refine xg_getr (C := RX6) (TC := TX6) (N := 34) hx hb hts iX6 hown hK hP xs60 rfl 20 (by decide) f_66 (fun _ h9 => h9) rfl dX6_generations_20 ?_
      refine lv_iload_n hx hb dX6_generations_23 rfl (lv_at hl 1 rfl) ?_
      obtain ⟨hi7, hw⟩ := hw
      refine xg_iald hx hb hK hP xs80 hi7 dX6_generations_24 ?_
      refine lv_goto (tgt := 29) hx hb dX6_generations_25 (by decide) ?_
      exact xg_irets hx hb hr rfl hlocks hB0 hP hK hN hS dX6_generations_29 (by decide) (by decide) hw
  unfold w_X6_generations at hw
  refine lv_aload_n hx hb dX6_generations_0 rfl (lv_at hl 0 rfl) ?_
  refine lv_iload_n hx hb dX6_generations_1 rfl (lv_at hl 1 rfl) ?_
  refine xg_calli (va_runS (As := [.int (p0)]) (rest := [.ref (ad (60))]) ⟨hx, hb, hml, hown, hts⟩ (c_X6_isFile l hl9 hA p0 hw) (va_cwS 1 hts gX6_generations_X6_isFile rfl rfl rfl (by decide +kernel) ⟨Nat.le_of_ble_eq_true rfl, Nat.le_of_ble_eq_true rfl⟩) (xg_preS hB0 hP hK hN hS) rfl rfl hl.1 rfl (lv_room (Nat.le_of_ble_eq_true rfl)) dX6_generations_2 ⟨Nat.le_of_ble_eq_true rfl, Nat.le_of_ble_eq_true rfl⟩) hS (fun r1 h2 H locs hw hP hS => ?_)
  refine lv_if_eq (tgt := 12) hx hb dX6_generations_5 (by decide) (fun c3 => ?_) (fun c3 => ?_)
  · have hw := hw.1 c3
    refine lv_iconst (v := 1) hx hb dX6_generations_12 (by decide) ?_
    exact j_13 (60) (1) _ _ _ _ hw hP hS (lv_sub hl [0, 1] rfl)
  · have hw := hw.2 c3
    refine lv_iconst (v := 0) hx hb dX6_generations_8 (by decide) ?_
    refine lv_goto (tgt := 13) hx hb dX6_generations_9 (by decide) ?_
    exact j_13 (60) (0) _ _ _ _ hw hP hS (lv_sub hl [0, 1] rfl)
set_option maxHeartbeats 4000000 in
set_option maxRecDepth 100000 in
theorem c_X6_queued (l : Launch) (hl9 : l.stackTraces = false) {B0 : Nat} {ad : Nat → Nat} {D : va_G} {T : Nat → ClassId} (hA : XA B0 ad) {h : xH} {K : Int32 → xH → Prop} (hw : w_X6_queued h K) : XM l yX6_queued wsX6_queued ({ frames := 0, cells := 0, slots := 0, locals := 0 } : Room) B0 ad D T h [.ref (ad (60))] xei K 0 0 := by
  unfold XM
  refine Met.ofW (cc := cX6_queued) (maxL := 1) (ret := (some .int)) (by decide) rfl ?_
  intro p e s m args below meth c s₁ B hml hv
  obtain ⟨rfl, hB0, hP, hK, hN⟩ := hv
  have hx := B.exec
  have hb := B.bytes
  have hr := B.returns
  have hts := atoms_spec (ws := wsX6_queued) B.pre
  have hown : s.vm.findClass RX6 = some m.cls := findClass_of_methodNamed B.named
  have hlocks := B.notSynchronized
  have iX6 : ∀ w ∈ u_ws RX6 TX6 34, w ∈ wsX6_queued := by decide +kernel
  have f_87 := hts (.fieldLink RX6 87 "LogSpoolerModel" "thrown" "I") (by decide +kernel)
  have f_115 := hts (.fieldLink RX6 115 "LogSpoolerModel" "taken" "I") (by decide +kernel)
  have f_161 := hts (.fieldLink RX6 161 "LogSpoolerModel" "sent" "I") (by decide +kernel)
  have hS : va_S (fun q => B0 ≤ q) s.heap s.heap [] := va_S.rf
  have hl := lv_entry ([.ref (ad (60))]) (n := 1) (Nat.le_of_ble_eq_true rfl)
  rw [lg_entry_eq]
  generalize (lg_sl ([.ref (ad (60))]) ++ List.replicate (1 - (lg_sl ([.ref (ad (60))])).length) Slot.unset).toArray = ls at hl ⊢
  have hl : lv_has ls 1 [(0, .ref (ad (60)))] := hl
  unfold w_X6_queued at hw
  refine lv_aload_n hx hb dX6_queued_0 rfl (lv_at hl 0 rfl) ?_
  refine lv_iconst (v := 0) hx hb dX6_queued_1 (by decide) ?_
  refine xg_put (C := RX6) (TC := TX6) (N := 34) hx hb hts iX6 tyX6 tyX6_ok nmX6 hown hK hP hA hS xs60 rfl 0 (by decide) f_87 (fun _ h9 => h9) rfl rfl (ty := .int) (by decide +kernel) rfl rfl dX6_queued_2 (fun H locs h1 eh1 hP hS => ?_)
  have hw := hw h1 eh1
  refine lv_aload_n hx hb dX6_queued_5 rfl (lv_at hl 0 rfl) ?_
  refine xg_get (C := RX6) (TC := TX6) (N := 34) hx hb hts iX6 hown hK hP xs60 rfl 26 (by decide) f_115 (fun _ h9 => h9) rfl dX6_queued_6 ?_
  refine lv_aload_n hx hb dX6_queued_9 rfl (lv_at hl 0 rfl) ?_
  refine xg_get (C := RX6) (TC := TX6) (N := 34) hx hb hts iX6 hown hK hP xs60 rfl 27 (by decide) f_161 (fun _ h9 => h9) rfl dX6_queued_10 ?_
  refine lv_isub hx hb dX6_queued_13 ?_
  exact xg_irets hx hb hr rfl hlocks hB0 hP hK hN hS dX6_queued_14 (by decide) (by decide) hw
set_option maxHeartbeats 4000000 in
set_option maxRecDepth 100000 in
theorem c_X6_inFlight (l : Launch) (hl9 : l.stackTraces = false) {B0 : Nat} {ad : Nat → Nat} {D : va_G} {T : Nat → ClassId} (hA : XA B0 ad) {h : xH} {K : Int32 → xH → Prop} (hw : w_X6_inFlight h K) : XM l yX6_inFlight wsX6_inFlight ({ frames := 0, cells := 0, slots := 0, locals := 0 } : Room) B0 ad D T h [.ref (ad (60))] xei K 0 0 := by
  unfold XM
  refine Met.ofW (cc := cX6_inFlight) (maxL := 1) (ret := (some .int)) (by decide) rfl ?_
  intro p e s m args below meth c s₁ B hml hv
  obtain ⟨rfl, hB0, hP, hK, hN⟩ := hv
  have hx := B.exec
  have hb := B.bytes
  have hr := B.returns
  have hts := atoms_spec (ws := wsX6_inFlight) B.pre
  have hown : s.vm.findClass RX6 = some m.cls := findClass_of_methodNamed B.named
  have hlocks := B.notSynchronized
  have iX6 : ∀ w ∈ u_ws RX6 TX6 34, w ∈ wsX6_inFlight := by decide +kernel
  have f_87 := hts (.fieldLink RX6 87 "LogSpoolerModel" "thrown" "I") (by decide +kernel)
  have f_118 := hts (.fieldLink RX6 118 "LogSpoolerModel" "acknowledged" "I") (by decide +kernel)
  have f_161 := hts (.fieldLink RX6 161 "LogSpoolerModel" "sent" "I") (by decide +kernel)
  have hS : va_S (fun q => B0 ≤ q) s.heap s.heap [] := va_S.rf
  have hl := lv_entry ([.ref (ad (60))]) (n := 1) (Nat.le_of_ble_eq_true rfl)
  rw [lg_entry_eq]
  generalize (lg_sl ([.ref (ad (60))]) ++ List.replicate (1 - (lg_sl ([.ref (ad (60))])).length) Slot.unset).toArray = ls at hl ⊢
  have hl : lv_has ls 1 [(0, .ref (ad (60)))] := hl
  unfold w_X6_inFlight at hw
  refine lv_aload_n hx hb dX6_inFlight_0 rfl (lv_at hl 0 rfl) ?_
  refine lv_iconst (v := 0) hx hb dX6_inFlight_1 (by decide) ?_
  refine xg_put (C := RX6) (TC := TX6) (N := 34) hx hb hts iX6 tyX6 tyX6_ok nmX6 hown hK hP hA hS xs60 rfl 0 (by decide) f_87 (fun _ h9 => h9) rfl rfl (ty := .int) (by decide +kernel) rfl rfl dX6_inFlight_2 (fun H locs h1 eh1 hP hS => ?_)
  have hw := hw h1 eh1
  refine lv_aload_n hx hb dX6_inFlight_5 rfl (lv_at hl 0 rfl) ?_
  refine xg_get (C := RX6) (TC := TX6) (N := 34) hx hb hts iX6 hown hK hP xs60 rfl 27 (by decide) f_161 (fun _ h9 => h9) rfl dX6_inFlight_6 ?_
  refine lv_aload_n hx hb dX6_inFlight_9 rfl (lv_at hl 0 rfl) ?_
  refine xg_get (C := RX6) (TC := TX6) (N := 34) hx hb hts iX6 hown hK hP xs60 rfl 28 (by decide) f_118 (fun _ h9 => h9) rfl dX6_inFlight_10 ?_
  refine lv_isub hx hb dX6_inFlight_13 ?_
  exact xg_irets hx hb hr rfl hlocks hB0 hP hK hN hS dX6_inFlight_14 (by decide) (by decide) hw
set_option maxHeartbeats 4000000 in
set_option maxRecDepth 100000 in
theorem c_X6_acknowledged (l : Launch) (hl9 : l.stackTraces = false) {B0 : Nat} {ad : Nat → Nat} {D : va_G} {T : Nat → ClassId} (hA : XA B0 ad) {h : xH} {K : Int32 → xH → Prop} (hw : w_X6_acknowledged h K) : XM l yX6_acknowledged wsX6_acknowledged ({ frames := 0, cells := 0, slots := 0, locals := 0 } : Room) B0 ad D T h [.ref (ad (60))] xei K 0 0 := by
  unfold XM
  refine Met.ofW (cc := cX6_acknowledged) (maxL := 1) (ret := (some .int)) (by decide) rfl ?_
  intro p e s m args below meth c s₁ B hml hv
  obtain ⟨rfl, hB0, hP, hK, hN⟩ := hv
  have hx := B.exec
  have hb := B.bytes
  have hr := B.returns
  have hts := atoms_spec (ws := wsX6_acknowledged) B.pre
  have hown : s.vm.findClass RX6 = some m.cls := findClass_of_methodNamed B.named
  have hlocks := B.notSynchronized
  have iX6 : ∀ w ∈ u_ws RX6 TX6 34, w ∈ wsX6_acknowledged := by decide +kernel
  have f_87 := hts (.fieldLink RX6 87 "LogSpoolerModel" "thrown" "I") (by decide +kernel)
  have f_118 := hts (.fieldLink RX6 118 "LogSpoolerModel" "acknowledged" "I") (by decide +kernel)
  have hS : va_S (fun q => B0 ≤ q) s.heap s.heap [] := va_S.rf
  have hl := lv_entry ([.ref (ad (60))]) (n := 1) (Nat.le_of_ble_eq_true rfl)
  rw [lg_entry_eq]
  generalize (lg_sl ([.ref (ad (60))]) ++ List.replicate (1 - (lg_sl ([.ref (ad (60))])).length) Slot.unset).toArray = ls at hl ⊢
  have hl : lv_has ls 1 [(0, .ref (ad (60)))] := hl
  unfold w_X6_acknowledged at hw
  refine lv_aload_n hx hb dX6_acknowledged_0 rfl (lv_at hl 0 rfl) ?_
  refine lv_iconst (v := 0) hx hb dX6_acknowledged_1 (by decide) ?_
  refine xg_put (C := RX6) (TC := TX6) (N := 34) hx hb hts iX6 tyX6 tyX6_ok nmX6 hown hK hP hA hS xs60 rfl 0 (by decide) f_87 (fun _ h9 => h9) rfl rfl (ty := .int) (by decide +kernel) rfl rfl dX6_acknowledged_2 (fun H locs h1 eh1 hP hS => ?_)
  have hw := hw h1 eh1
  refine lv_aload_n hx hb dX6_acknowledged_5 rfl (lv_at hl 0 rfl) ?_
  refine xg_get (C := RX6) (TC := TX6) (N := 34) hx hb hts iX6 hown hK hP xs60 rfl 28 (by decide) f_118 (fun _ h9 => h9) rfl dX6_acknowledged_6 ?_
  exact xg_irets hx hb hr rfl hlocks hB0 hP hK hN hS dX6_acknowledged_9 (by decide) (by decide) hw
set_option maxHeartbeats 4000000 in
set_option maxRecDepth 100000 in
theorem c_X6_lost (l : Launch) (hl9 : l.stackTraces = false) {B0 : Nat} {ad : Nat → Nat} {D : va_G} {T : Nat → ClassId} (hA : XA B0 ad) {h : xH} {K : Int32 → xH → Prop} (hw : w_X6_lost h K) : XM l yX6_lost wsX6_lost ({ frames := 0, cells := 0, slots := 0, locals := 0 } : Room) B0 ad D T h [.ref (ad (60))] xei K 0 0 := by
  unfold XM
  refine Met.ofW (cc := cX6_lost) (maxL := 1) (ret := (some .int)) (by decide) rfl ?_
  intro p e s m args below meth c s₁ B hml hv
  obtain ⟨rfl, hB0, hP, hK, hN⟩ := hv
  have hx := B.exec
  have hb := B.bytes
  have hr := B.returns
  have hts := atoms_spec (ws := wsX6_lost) B.pre
  have hown : s.vm.findClass RX6 = some m.cls := findClass_of_methodNamed B.named
  have hlocks := B.notSynchronized
  have iX6 : ∀ w ∈ u_ws RX6 TX6 34, w ∈ wsX6_lost := by decide +kernel
  have f_87 := hts (.fieldLink RX6 87 "LogSpoolerModel" "thrown" "I") (by decide +kernel)
  have f_121 := hts (.fieldLink RX6 121 "LogSpoolerModel" "lost" "I") (by decide +kernel)
  have hS : va_S (fun q => B0 ≤ q) s.heap s.heap [] := va_S.rf
  have hl := lv_entry ([.ref (ad (60))]) (n := 1) (Nat.le_of_ble_eq_true rfl)
  rw [lg_entry_eq]
  generalize (lg_sl ([.ref (ad (60))]) ++ List.replicate (1 - (lg_sl ([.ref (ad (60))])).length) Slot.unset).toArray = ls at hl ⊢
  have hl : lv_has ls 1 [(0, .ref (ad (60)))] := hl
  unfold w_X6_lost at hw
  refine lv_aload_n hx hb dX6_lost_0 rfl (lv_at hl 0 rfl) ?_
  refine lv_iconst (v := 0) hx hb dX6_lost_1 (by decide) ?_
  refine xg_put (C := RX6) (TC := TX6) (N := 34) hx hb hts iX6 tyX6 tyX6_ok nmX6 hown hK hP hA hS xs60 rfl 0 (by decide) f_87 (fun _ h9 => h9) rfl rfl (ty := .int) (by decide +kernel) rfl rfl dX6_lost_2 (fun H locs h1 eh1 hP hS => ?_)
  have hw := hw h1 eh1
  refine lv_aload_n hx hb dX6_lost_5 rfl (lv_at hl 0 rfl) ?_
  refine xg_get (C := RX6) (TC := TX6) (N := 34) hx hb hts iX6 hown hK hP xs60 rfl 29 (by decide) f_121 (fun _ h9 => h9) rfl dX6_lost_6 ?_
  exact xg_irets hx hb hr rfl hlocks hB0 hP hK hN hS dX6_lost_9 (by decide) (by decide) hw
set_option maxHeartbeats 4000000 in
set_option maxRecDepth 100000 in
theorem c_X6_messages (l : Launch) (hl9 : l.stackTraces = false) {B0 : Nat} {ad : Nat → Nat} {D : va_G} {T : Nat → ClassId} (hA : XA B0 ad) {h : xH} {K : Int32 → xH → Prop} (hw : w_X6_messages h K) : XM l yX6_messages wsX6_messages ({ frames := 0, cells := 0, slots := 0, locals := 0 } : Room) B0 ad D T h [.ref (ad (60))] xei K 0 0 := by
  unfold XM
  refine Met.ofW (cc := cX6_messages) (maxL := 1) (ret := (some .int)) (by decide) rfl ?_
  intro p e s m args below meth c s₁ B hml hv
  obtain ⟨rfl, hB0, hP, hK, hN⟩ := hv
  have hx := B.exec
  have hb := B.bytes
  have hr := B.returns
  have hts := atoms_spec (ws := wsX6_messages) B.pre
  have hown : s.vm.findClass RX6 = some m.cls := findClass_of_methodNamed B.named
  have hlocks := B.notSynchronized
  have iX6 : ∀ w ∈ u_ws RX6 TX6 34, w ∈ wsX6_messages := by decide +kernel
  have f_87 := hts (.fieldLink RX6 87 "LogSpoolerModel" "thrown" "I") (by decide +kernel)
  have f_137 := hts (.fieldLink RX6 137 "LogSpoolerModel" "messages" "I") (by decide +kernel)
  have hS : va_S (fun q => B0 ≤ q) s.heap s.heap [] := va_S.rf
  have hl := lv_entry ([.ref (ad (60))]) (n := 1) (Nat.le_of_ble_eq_true rfl)
  rw [lg_entry_eq]
  generalize (lg_sl ([.ref (ad (60))]) ++ List.replicate (1 - (lg_sl ([.ref (ad (60))])).length) Slot.unset).toArray = ls at hl ⊢
  have hl : lv_has ls 1 [(0, .ref (ad (60)))] := hl
  unfold w_X6_messages at hw
  refine lv_aload_n hx hb dX6_messages_0 rfl (lv_at hl 0 rfl) ?_
  refine lv_iconst (v := 0) hx hb dX6_messages_1 (by decide) ?_
  refine xg_put (C := RX6) (TC := TX6) (N := 34) hx hb hts iX6 tyX6 tyX6_ok nmX6 hown hK hP hA hS xs60 rfl 0 (by decide) f_87 (fun _ h9 => h9) rfl rfl (ty := .int) (by decide +kernel) rfl rfl dX6_messages_2 (fun H locs h1 eh1 hP hS => ?_)
  have hw := hw h1 eh1
  refine lv_aload_n hx hb dX6_messages_5 rfl (lv_at hl 0 rfl) ?_
  refine xg_get (C := RX6) (TC := TX6) (N := 34) hx hb hts iX6 hown hK hP xs60 rfl 31 (by decide) f_137 (fun _ h9 => h9) rfl dX6_messages_6 ?_
  exact xg_irets hx hb hr rfl hlocks hB0 hP hK hN hS dX6_messages_9 (by decide) (by decide) hw
set_option maxHeartbeats 4000000 in
set_option maxRecDepth 100000 in
theorem c_X6_isMessage (l : Launch) (hl9 : l.stackTraces = false) {B0 : Nat} {ad : Nat → Nat} {D : va_G} {T : Nat → ClassId} (hA : XA B0 ad) (p0 : Int32) {h : xH} {K : Int32 → xH → Prop} (hw : w_X6_isMessage p0 h K) : XM l yX6_isMessage wsX6_isMessage ({ frames := 1, cells := 0, slots := 0, locals := 21 } : Room) B0 ad D T h [.ref (ad (60)), .int (p0)] xei K 0 0 := by
  unfold XM
  refine Met.ofW (cc := cX6_isMessage) (maxL := 2) (ret := (some .boolean)) (by decide) rfl ?_
  intro p e s m args below meth c s₁ B hml hv
  obtain ⟨rfl, hB0, hP, hK, hN⟩ := hv
  have hx := B.exec
  have hb := B.bytes
  have hr := B.returns
  have hts := atoms_spec (ws := wsX6_isMessage) B.pre
  have hown : s.vm.findClass RX6 = some m.cls := findClass_of_methodNamed B.named
  have hlocks := B.notSynchronized
  have iX6 : ∀ w ∈ u_ws RX6 TX6 34, w ∈ wsX6_isMessage := by decide +kernel
  have f_137 := hts (.fieldLink RX6 137 "LogSpoolerModel" "messages" "I") (by decide +kernel)
  have hS : va_S (fun q => B0 ≤ q) s.heap s.heap [] := va_S.rf
  have hl := lv_entry ([.ref (ad (60)), .int (p0)]) (n := 2) (Nat.le_of_ble_eq_true rfl)
  rw [lg_entry_eq]
  generalize (lg_sl ([.ref (ad (60)), .int (p0)]) ++ List.replicate (2 - (lg_sl ([.ref (ad (60)), .int (p0)])).length) Slot.unset).toArray = ls at hl ⊢
  have hl : lv_has ls 2 [(0, .ref (ad (60))), (1, .int (p0))] := hl
  have j_18 : ∀ (s0 : Nat) (s1 : Int32) (h : xH) (H : Heap) (locs : List Loc) (ls : Array Slot), w_X6_isMessage_18 p0 K s0 s1 h → XP ad D T h H → va_S (fun q => B0 ≤ q) s.heap H locs → lv_has ls 2 [] → W p l e (headSpec wsX6_isMessage ({ frames := 1, cells := 0, slots := 0, locals := 21 } : Room)).room s m ([.ref (ad (60)), .int (p0)] : List Value).toArray below meth c H locs 0 0 (MQ below (XQ B0 ad D T xei K) ([.ref (ad (60)), .int (p0)] : List Value).toArray s 0 0 (fun q => B0 ≤ q)) (F0 m 18 ls [.int (s1), .ref (ad (60))]) := by
    intro s0 s1 h H locs ls hw hP hS hl 
    unfold w_X6_isMessage_18 at hw
    refine xg_calli (va_runV (As := [.int (s1)]) (rest := []) ⟨hx, hb, hml, hown, hts⟩ (c_X6_holds l hl9 hA s1 hw) (cwV 1 hts gX6_isMessage_X6_holds rfl rfl rfl (by decide +kernel) ⟨Nat.le_of_ble_eq_true rfl, Nat.le_of_ble_eq_true rfl⟩) (xg_preV hB0 hP hK hN hS xs60 rfl) rfl rfl hl.1 rfl (lv_room (Nat.le_of_ble_eq_true rfl)) dX6_isMessage_18 ⟨Nat.le_of_ble_eq_true rfl, Nat.le_of_ble_eq_true rfl⟩) hS (fun r3 h4 H locs hw hP hS => ?_)
    obtain ⟨hz5, hw⟩ := hw
    exact xg_irets hx hb hr hz5 hlocks hB0 hP hK hN hS dX6_isMessage_21 (by decide) (by decide) hw
  have j_17 : ∀ (s0 : Nat) (h : xH) (H : Heap) (locs : List Loc) (ls : Array Slot), w_X6_isMessage_17 p0 K s0 h → XP ad D T h H → va_S (fun q => B0 ≤ q) s.heap H locs → lv_has ls 2 [] → W p l e (headSpec wsX6_isMessage ({ frames := 1, cells := 0, slots := 0, locals := 21 } : Room)).room s m ([.ref (ad (60)), .int (p0)] : List Value).toArray below meth c H locs 0 0 (MQ below (XQ B0 ad D T xei K) ([.ref (ad (60)), .int (p0)] : List Value).toArray s 0 0 (fun q => B0 ≤ q)) (F0 m 17 ls [.ref (ad (60))]) := by
    intro s0 h H locs ls hw hP hS hl 
    unfold w_X6_isMessage_17 at hw
    refine lv_iconst (v := 1) hx hb dX6_isMessage_17 (by decide) ?_
    exact j_18 (60) (1) _ _ _ _ hw hP hS (lv_sub hl [] rfl)
  unfold w_X6_isMessage at hw
  refine lv_aload_n hx hb dX6_isMessage_0 rfl (lv_at hl 0 rfl) ?_
  refine lv_iload_n hx hb dX6_isMessage_1 rfl (lv_at hl 1 rfl) ?_
  refine lv_if_lt (tgt := 17) hx hb dX6_isMessage_2 (by decide) (fun c1 => ?_) (fun c1 => ?_)
  · have hw := hw.1 c1
    exact j_17 (60) _ _ _ _ hw hP hS (lv_sub hl [] rfl)
  · have hw := hw.2 c1
    refine lv_iload_n hx hb dX6_isMessage_5 rfl (lv_at hl 1 rfl) ?_
    refine lv_aload_n hx hb dX6_isMessage_6 rfl (lv_at hl 0 rfl) ?_
    refine xg_get (C := RX6) (TC := TX6) (N := 34) hx hb hts iX6 hown hK hP xs60 rfl 31 (by decide) f_137 (fun _ h9 => h9) rfl dX6_isMessage_7 ?_
    refine lv_icmp_ge (tgt := 17) hx hb dX6_isMessage_10 (by decide) (fun c2 => ?_) (fun c2 => ?_)
    · have hw := hw.1 c2
      exact j_17 (60) _ _ _ _ hw hP hS (lv_sub hl [] rfl)
    · have hw := hw.2 c2
      refine lv_iconst (v := 0) hx hb dX6_isMessage_13 (by decide) ?_
      refine lv_goto (tgt := 18) hx hb dX6_isMessage_14 (by decide) ?_
      exact j_18 (60) (0) _ _ _ _ hw hP hS (lv_sub hl [] rfl)
set_option maxHeartbeats 4000000 in
set_option maxRecDepth 100000 in
theorem c_X6_fateOf (l : Launch) (hl9 : l.stackTraces = false) {B0 : Nat} {ad : Nat → Nat} {D : va_G} {T : Nat → ClassId} (hA : XA B0 ad) (p0 : Int32) {h : xH} {K : Int32 → xH → Prop} (hw : w_X6_fateOf p0 h K) : XM l yX6_fateOf wsX6_fateOf ({ frames := 2, cells := 0, slots := 0, locals := 42 } : Room) B0 ad D T h [.ref (ad (60)), .int (p0)] xei K 0 0 := by
  unfold XM
  refine Met.ofW (cc := cX6_fateOf) (maxL := 2) (ret := (some .int)) (by decide) rfl ?_
  intro p e s m args below meth c s₁ B hml hv
  obtain ⟨rfl, hB0, hP, hK, hN⟩ := hv
  have hx := B.exec
  have hb := B.bytes
  have hr := B.returns
  have hts := atoms_spec (ws := wsX6_fateOf) B.pre
  have hown : s.vm.findClass RX6 = some m.cls := findClass_of_methodNamed B.named
  have hlocks := B.notSynchronized
  have iX6 : ∀ w ∈ u_ws RX6 TX6 34, w ∈ wsX6_fateOf := by decide +kernel
  have f_81 := hts (.fieldLink RX6 81 "LogSpoolerModel" "fates" "[I") (by decide +kernel)
  have hS : va_S (fun q => B0 ≤ q) s.heap s.heap [] := va_S.rf
  have hl := lv_entry ([.ref (ad (60)), .int (p0)]) (n := 2) (Nat.le_of_ble_eq_true rfl)
  rw [lg_entry_eq]
  generalize (lg_sl ([.ref (ad (60)), .int (p0)]) ++ List.replicate (2 - (lg_sl ([.ref (ad (60)), .int (p0)])).length) Slot.unset).toArray = ls at hl ⊢
  have hl : lv_has ls 2 [(0, .ref (ad (60))), (1, .int (p0))] := hl
  unfold w_X6_fateOf at hw
  refine lv_aload_n hx hb dX6_fateOf_0 rfl (lv_at hl 0 rfl) ?_
  refine lv_iload_n hx hb dX6_fateOf_1 rfl (lv_at hl 1 rfl) ?_
  refine xg_calli (va_runV (As := [.int (p0)]) (rest := []) ⟨hx, hb, hml, hown, hts⟩ (c_X6_isMessage l hl9 hA p0 hw) (cwV 1 hts gX6_fateOf_X6_isMessage rfl rfl rfl (by decide +kernel) ⟨Nat.le_of_ble_eq_true rfl, Nat.le_of_ble_eq_true rfl⟩) (xg_preV hB0 hP hK hN hS xs60 rfl) rfl rfl hl.1 rfl (lv_room (Nat.le_of_ble_eq_true rfl)) dX6_fateOf_2 ⟨Nat.le_of_ble_eq_true rfl, Nat.le_of_ble_eq_true rfl⟩) hS (fun r1 h2 H locs hw hP hS => ?_)
  refine lv_if_eq (tgt := 17) hx hb dX6_fateOf_5 (by decide) (fun c3 => ?_) (fun c3 => ?_)
  · have hw := hw.1 c3
    refine lv_iconst (v := 0) hx hb dX6_fateOf_17 (by decide) ?_
    exact xg_irets hx hb hr rfl hlocks hB0 hP hK hN hS dX6_fateOf_18 (by decide) (by decide) hw
  · have hw := hw.2 c3
    refine lv_aload_n hx hb dX6_fateOf_8 rfl (lv_at hl 0 rfl) ?_
    refine xg_getr (C := RX6) (TC := TX6) (N := 34) hx hb hts iX6 hown hK hP xs60 rfl 32 (by decide) f_81 (fun _ h9 => h9) rfl dX6_fateOf_9 ?_
    refine lv_iload_n hx hb dX6_fateOf_12 rfl (lv_at hl 1 rfl) ?_
    obtain ⟨hi4, hw⟩ := hw
    refine xg_iald hx hb hK hP xs92 hi4 dX6_fateOf_13 ?_
    refine lv_goto (tgt := 18) hx hb dX6_fateOf_14 (by decide) ?_
    exact xg_irets hx hb hr rfl hlocks hB0 hP hK hN hS dX6_fateOf_18 (by decide) (by decide) hw
set_option maxHeartbeats 4000000 in
set_option maxRecDepth 100000 in
theorem c_X6_count (l : Launch) (hl9 : l.stackTraces = false) {B0 : Nat} {ad : Nat → Nat} {D : va_G} {T : Nat → ClassId} (hA : XA B0 ad) (p0 : Int32) {h : xH} {K : Int32 → xH → Prop} (hw : w_X6_count p0 h K) : XM l yX6_count wsX6_count ({ frames := 1, cells := 0, slots := 0, locals := 22 } : Room) B0 ad D T h [.ref (ad (60)), .int (p0)] xei K 0 0 := by
  unfold XM
  refine Met.ofW (cc := cX6_count) (maxL := 4) (ret := (some .int)) (by decide) rfl ?_
  intro p e s m args below meth c s₁ B hml hv
  obtain ⟨rfl, hB0, hP, hK, hN⟩ := hv
  have hx := B.exec
  have hb := B.bytes
  have hr := B.returns
  have hts := atoms_spec (ws := wsX6_count) B.pre
  have hown : s.vm.findClass RX6 = some m.cls := findClass_of_methodNamed B.named
  have hlocks := B.notSynchronized
  have iX6 : ∀ w ∈ u_ws RX6 TX6 34, w ∈ wsX6_count := by decide +kernel
  have f_81 := hts (.fieldLink RX6 81 "LogSpoolerModel" "fates" "[I") (by decide +kernel)
  have f_137 := hts (.fieldLink RX6 137 "LogSpoolerModel" "messages" "I") (by decide +kernel)
  have hS : va_S (fun q => B0 ≤ q) s.heap s.heap [] := va_S.rf
  have hl := lv_entry ([.ref (ad (60)), .int (p0)]) (n := 4) (Nat.le_of_ble_eq_true rfl)
  rw [lg_entry_eq]
  generalize (lg_sl ([.ref (ad (60)), .int (p0)]) ++ List.replicate (4 - (lg_sl ([.ref (ad (60)), .int (p0)])).length) Slot.unset).toArray = ls at hl ⊢
  have hl : lv_has ls 4 [(0, .ref (ad (60))), (1, .int (p0))] := hl
  have j_51 : ∀ (R9 : Int32 → Int32 → xH → Prop) (hR9 : ∀ (v2 : Int32) (v3 : Int32) (h : xH) (H : Heap) (locs : List Loc) (ls : Array Slot), R9 v2 v3 h → XP ad D T h H → va_S (fun q => B0 ≤ q) s.heap H locs → lv_has ls 4 [(0, .ref (ad (60))), (1, .int (p0)), (2, .int (v2)), (3, .int (v3))] → W p l e (headSpec wsX6_count ({ frames := 1, cells := 0, slots := 0, locals := 22 } : Room)).room s m ([.ref (ad (60)), .int (p0)] : List Value).toArray below meth c H locs 0 0 (MQ below (XQ B0 ad D T xei K) ([.ref (ad (60)), .int (p0)] : List Value).toArray s 0 0 (fun q => B0 ≤ q)) (F0 m 27 ls [])) (v3 : Int32) (s0 : Int32) (s1 : Int32) (h : xH) (H : Heap) (locs : List Loc) (ls : Array Slot), w_X6_count_51 p0 K R9 v3 s0 s1 h → XP ad D T h H → va_S (fun q => B0 ≤ q) s.heap H locs → lv_has ls 4 [(0, .ref (ad (60))), (1, .int (p0)), (3, .int (v3))] → W p l e (headSpec wsX6_count ({ frames := 1, cells := 0, slots := 0, locals := 22 } : Room)).room s m ([.ref (ad (60)), .int (p0)] : List Value).toArray below meth c H locs 0 0 (MQ below (XQ B0 ad D T xei K) ([.ref (ad (60)), .int (p0)] : List Value).toArray s 0 0 (fun q => B0 ≤ q)) (F0 m 51 ls [.int (s1), .int (s0)]) := by
    intro R9 hR9 v3 s0 s1 h H locs ls hw hP hS hl 
    unfold w_X6_count_51 at hw
    refine lv_iadd hx hb dX6_count_51 ?_
    refine lv_topi (fun x10 ex10 => ?_)
    have hw := hw x10 ex10
    refine lv_istore_n (lv' := [(2, .int (x10)), (0, .ref (ad (60))), (1, .int (p0)), (3, .int (v3))]) hx hb dX6_count_52 rfl hl (by decide) rfl (fun ls hl => ?_)
    obtain ⟨x11, ex11⟩ : ∃ z : Int32, z = v3 + 1 := ⟨_, rfl⟩
    have hw := hw x11 ex11
    refine lv_iinc (v := x11) (lv' := [(3, .int (x11)), (2, .int (x10)), (0, .ref (ad (60))), (1, .int (p0))]) hx hb dX6_count_53 hl (k := 3) rfl (by rw [ex11]; rfl) (by decide) rfl (fun ls hl => ?_)
    refine lv_goto (tgt := 27) hx hb dX6_count_56 (by decide) ?_
    exact hR9 (x10) (x11) _ _ _ _ hw hP hS (lv_sub hl [2, 3, 1, 0] rfl)
  have j_27 : ∀ (n : Nat) (v2 : Int32) (v3 : Int32) (h : xH) (H : Heap) (locs : List Loc) (ls : Array Slot), w_X6_count_27 p0 K n v2 v3 h → XP ad D T h H → va_S (fun q => B0 ≤ q) s.heap H locs → lv_has ls 4 [(0, .ref (ad (60))), (1, .int (p0)), (2, .int (v2)), (3, .int (v3))] → W p l e (headSpec wsX6_count ({ frames := 1, cells := 0, slots := 0, locals := 22 } : Room)).room s m ([.ref (ad (60)), .int (p0)] : List Value).toArray below meth c H locs 0 0 (MQ below (XQ B0 ad D T xei K) ([.ref (ad (60)), .int (p0)] : List Value).toArray s 0 0 (fun q => B0 ≤ q)) (F0 m 27 ls []) := by
    intro n
    induction n with
    | zero => intro v2 v3 h H locs ls hw; exact hw.elim
    | succ n9 ih =>
      intro v2 v3 h H locs ls hw hP hS hl 
      rw [w_X6_count_27_s] at hw
      refine lv_iload_n hx hb dX6_count_27 rfl (lv_at hl 3 rfl) ?_
      refine lv_aload_n hx hb dX6_count_28 rfl (lv_at hl 0 rfl) ?_
      refine xg_get (C := RX6) (TC := TX6) (N := 34) hx hb hts iX6 hown hK hP xs60 rfl 31 (by decide) f_137 (fun _ h9 => h9) rfl dX6_count_29 ?_
      refine lv_icmp_ge (tgt := 59) hx hb dX6_count_32 (by decide) (fun c7 => ?_) (fun c7 => ?_)
      · have hw := hw.1 c7
        refine lv_iload_n hx hb dX6_count_59 rfl (lv_at hl 2 rfl) ?_
        exact xg_irets hx hb hr rfl hlocks hB0 hP hK hN hS dX6_count_60 (by decide) (by decide) hw
      · have hw := hw.2 c7
        refine lv_iload_n hx hb dX6_count_35 rfl (lv_at hl 2 rfl) ?_
        refine lv_aload_n hx hb dX6_count_36 rfl (lv_at hl 0 rfl) ?_
        refine xg_getr (C := RX6) (TC := TX6) (N := 34) hx hb hts iX6 hown hK hP xs60 rfl 32 (by decide) f_81 (fun _ h9 => h9) rfl dX6_count_37 ?_
        refine lv_iload_n hx hb dX6_count_40 rfl (lv_at hl 3 rfl) ?_
        obtain ⟨hi8, hw⟩ := hw
        refine xg_iald hx hb hK hP xs92 hi8 dX6_count_41 ?_
        refine lv_iload_n hx hb dX6_count_42 rfl (lv_at hl 1 rfl) ?_
        refine lv_icmp_ne (tgt := 50) hx hb dX6_count_43 (by decide) (fun c9 => ?_) (fun c9 => ?_)
        · have hw := hw.2 c9
          refine lv_iconst (v := 0) hx hb dX6_count_50 (by decide) ?_
          exact j_51 _ (ih) (v3) (v2) (0) _ _ _ _ hw hP hS (lv_sub hl [0, 1, 3] rfl)
        · have hw := hw.1 c9
          refine lv_iconst (v := 1) hx hb dX6_count_46 (by decide) ?_
          refine lv_goto (tgt := 51) hx hb dX6_count_47 (by decide) ?_
          exact j_51 _ (ih) (v3) (v2) (1) _ _ _ _ hw hP hS (lv_sub hl [0, 1, 3] rfl)
  have j_15 : ∀ (s0 : Nat) (s1 : Int32) (h : xH) (H : Heap) (locs : List Loc) (ls : Array Slot), w_X6_count_15 p0 K s0 s1 h → XP ad D T h H → va_S (fun q => B0 ≤ q) s.heap H locs → lv_has ls 4 [(0, .ref (ad (60))), (1, .int (p0))] → W p l e (headSpec wsX6_count ({ frames := 1, cells := 0, slots := 0, locals := 22 } : Room)).room s m ([.ref (ad (60)), .int (p0)] : List Value).toArray below meth c H locs 0 0 (MQ below (XQ B0 ad D T xei K) ([.ref (ad (60)), .int (p0)] : List Value).toArray s 0 0 (fun q => B0 ≤ q)) (F0 m 15 ls [.int (s1), .ref (ad (60))]) := by
    intro s0 s1 h H locs ls hw hP hS hl 
    unfold w_X6_count_15 at hw
    refine xg_calli (va_runV (As := [.int (s1)]) (rest := []) ⟨hx, hb, hml, hown, hts⟩ (c_X6_holds l hl9 hA s1 hw) (cwV 1 hts gX6_count_X6_holds rfl rfl rfl (by decide +kernel) ⟨Nat.le_of_ble_eq_true rfl, Nat.le_of_ble_eq_true rfl⟩) (xg_preV hB0 hP hK hN hS xs60 rfl) rfl rfl hl.1 rfl (lv_room (Nat.le_of_ble_eq_true rfl)) dX6_count_15 ⟨Nat.le_of_ble_eq_true rfl, Nat.le_of_ble_eq_true rfl⟩) hS (fun r4 h5 H locs hw hP hS => ?_)
    refine lv_if_ne (tgt := 23) hx hb dX6_count_18 (by decide) (fun c6 => ?_) (fun c6 => ?_)
    · have hw := hw.2 c6
      refine lv_iconst (v := 0) hx hb dX6_count_23 (by decide) ?_
      refine lv_istore_n (lv' := [(2, .int (0)), (0, .ref (ad (60))), (1, .int (p0))]) hx hb dX6_count_24 rfl hl (by decide) rfl (fun ls hl => ?_)
      refine lv_iconst (v := 0) hx hb dX6_count_25 (by decide) ?_
      refine lv_istore_n (lv' := [(3, .int (0)), (2, .int (0)), (0, .ref (ad (60))), (1, .int (p0))]) hx hb dX6_count_26 rfl hl (by decide) rfl (fun ls hl => ?_)
      obtain ⟨n9, hw⟩ := hw
      exact j_27 n9 (0) (0) _ _ _ _ hw hP hS (lv_sub hl [2, 3, 1, 0] rfl)
    · have hw := hw.1 c6
      refine lv_iconst (v := 0) hx hb dX6_count_21 (by decide) ?_
      exact xg_irets hx hb hr rfl hlocks hB0 hP hK hN hS dX6_count_22 (by decide) (by decide) hw
  unfold w_X6_count at hw
  refine lv_aload_n hx hb dX6_count_0 rfl (lv_at hl 0 rfl) ?_
  refine lv_iload_n hx hb dX6_count_1 rfl (lv_at hl 1 rfl) ?_
  refine lv_iconst (v := 0) hx hb dX6_count_2 (by decide) ?_
  refine lv_iconst (v := 3) hx hb dX6_count_3 (by decide) ?_
  refine xg_calli (va_runS (As := [.int (p0), .int (0), .int (3)]) (rest := [.ref (ad (60))]) ⟨hx, hb, hml, hown, hts⟩ (c_X6_isIn l hl9 hA p0 (0 : Int32) (3 : Int32) hw) (va_cwS 3 hts gX6_count_X6_isIn rfl rfl rfl (by decide +kernel) ⟨Nat.le_of_ble_eq_true rfl, Nat.le_of_ble_eq_true rfl⟩) (xg_preS hB0 hP hK hN hS) rfl rfl hl.1 rfl (lv_room (Nat.le_of_ble_eq_true rfl)) dX6_count_4 ⟨Nat.le_of_ble_eq_true rfl, Nat.le_of_ble_eq_true rfl⟩) hS (fun r1 h2 H locs hw hP hS => ?_)
  refine lv_if_eq (tgt := 14) hx hb dX6_count_7 (by decide) (fun c3 => ?_) (fun c3 => ?_)
  · have hw := hw.1 c3
    refine lv_iconst (v := 1) hx hb dX6_count_14 (by decide) ?_
    exact j_15 (60) (1) _ _ _ _ hw hP hS (lv_sub hl [0, 1] rfl)
  · have hw := hw.2 c3
    refine lv_iconst (v := 0) hx hb dX6_count_10 (by decide) ?_
    refine lv_goto (tgt := 15) hx hb dX6_count_11 (by decide) ?_
    exact j_15 (60) (0) _ _ _ _ hw hP hS (lv_sub hl [0, 1] rfl)
set_option maxHeartbeats 4000000 in
set_option maxRecDepth 100000 in
theorem c_X6_targetsOf (l : Launch) (hl9 : l.stackTraces = false) {B0 : Nat} {ad : Nat → Nat} {D : va_G} {T : Nat → ClassId} (hA : XA B0 ad) (p0 : Int32) {h : xH} {K : Int32 → xH → Prop} (hw : w_X6_targetsOf p0 h K) : XM l yX6_targetsOf wsX6_targetsOf ({ frames := 2, cells := 0, slots := 0, locals := 42 } : Room) B0 ad D T h [.ref (ad (60)), .int (p0)] xei K 0 0 := by
  unfold XM
  refine Met.ofW (cc := cX6_targetsOf) (maxL := 2) (ret := (some .int)) (by decide) rfl ?_
  intro p e s m args below meth c s₁ B hml hv
  obtain ⟨rfl, hB0, hP, hK, hN⟩ := hv
  have hx := B.exec
  have hb := B.bytes
  have hr := B.returns
  have hts := atoms_spec (ws := wsX6_targetsOf) B.pre
  have hown : s.vm.findClass RX6 = some m.cls := findClass_of_methodNamed B.named
  have hlocks := B.notSynchronized
  have iX6 : ∀ w ∈ u_ws RX6 TX6 34, w ∈ wsX6_targetsOf := by decide +kernel
  have f_84 := hts (.fieldLink RX6 84 "LogSpoolerModel" "wentTo" "[I") (by decide +kernel)
  have hS : va_S (fun q => B0 ≤ q) s.heap s.heap [] := va_S.rf
  have hl := lv_entry ([.ref (ad (60)), .int (p0)]) (n := 2) (Nat.le_of_ble_eq_true rfl)
  rw [lg_entry_eq]
  generalize (lg_sl ([.ref (ad (60)), .int (p0)]) ++ List.replicate (2 - (lg_sl ([.ref (ad (60)), .int (p0)])).length) Slot.unset).toArray = ls at hl ⊢
  have hl : lv_has ls 2 [(0, .ref (ad (60))), (1, .int (p0))] := hl
  unfold w_X6_targetsOf at hw
  refine lv_aload_n hx hb dX6_targetsOf_0 rfl (lv_at hl 0 rfl) ?_
  refine lv_iload_n hx hb dX6_targetsOf_1 rfl (lv_at hl 1 rfl) ?_
  refine xg_calli (va_runV (As := [.int (p0)]) (rest := []) ⟨hx, hb, hml, hown, hts⟩ (c_X6_isMessage l hl9 hA p0 hw) (cwV 1 hts gX6_targetsOf_X6_isMessage rfl rfl rfl (by decide +kernel) ⟨Nat.le_of_ble_eq_true rfl, Nat.le_of_ble_eq_true rfl⟩) (xg_preV hB0 hP hK hN hS xs60 rfl) rfl rfl hl.1 rfl (lv_room (Nat.le_of_ble_eq_true rfl)) dX6_targetsOf_2 ⟨Nat.le_of_ble_eq_true rfl, Nat.le_of_ble_eq_true rfl⟩) hS (fun r1 h2 H locs hw hP hS => ?_)
  refine lv_if_eq (tgt := 17) hx hb dX6_targetsOf_5 (by decide) (fun c3 => ?_) (fun c3 => ?_)
  · have hw := hw.1 c3
    refine lv_iconst (v := 0) hx hb dX6_targetsOf_17 (by decide) ?_
    exact xg_irets hx hb hr rfl hlocks hB0 hP hK hN hS dX6_targetsOf_18 (by decide) (by decide) hw
  · have hw := hw.2 c3
    refine lv_aload_n hx hb dX6_targetsOf_8 rfl (lv_at hl 0 rfl) ?_
    refine xg_getr (C := RX6) (TC := TX6) (N := 34) hx hb hts iX6 hown hK hP xs60 rfl 33 (by decide) f_84 (fun _ h9 => h9) rfl dX6_targetsOf_9 ?_
    refine lv_iload_n hx hb dX6_targetsOf_12 rfl (lv_at hl 1 rfl) ?_
    obtain ⟨hi4, hw⟩ := hw
    refine xg_iald hx hb hK hP xs93 hi4 dX6_targetsOf_13 ?_
    refine lv_goto (tgt := 18) hx hb dX6_targetsOf_14 (by decide) ?_
    exact xg_irets hx hb hr rfl hlocks hB0 hP hK hN hS dX6_targetsOf_18 (by decide) (by decide) hw
