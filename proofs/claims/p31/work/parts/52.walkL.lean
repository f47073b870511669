theorem xtab7 {x : Int32} (h0 : ¬ x = 0) (h1 : ¬ x = 1) (h2 : ¬ x = 2) (h3 : ¬ x = 3) (h4 : ¬ x = 4) (h5 : ¬ x = 5) (h6 : ¬ x = 6) : x.toInt < 0 ∨ 6 < x.toInt := by
  have e0 : x.toInt ≠ 0 := fun q => h0 (Int32.toInt_inj.mp (show x.toInt = (0 : Int32).toInt from q))
  have e1 : x.toInt ≠ 1 := fun q => h1 (Int32.toInt_inj.mp (show x.toInt = (1 : Int32).toInt from q))
  have e2 : x.toInt ≠ 2 := fun q => h2 (Int32.toInt_inj.mp (show x.toInt = (2 : Int32).toInt from q))
  have e3 : x.toInt ≠ 3 := fun q => h3 (Int32.toInt_inj.mp (show x.toInt = (3 : Int32).toInt from q))
  have e4 : x.toInt ≠ 4 := fun q => h4 (Int32.toInt_inj.mp (show x.toInt = (4 : Int32).toInt from q))
  have e5 : x.toInt ≠ 5 := fun q => h5 (Int32.toInt_inj.mp (show x.toInt = (5 : Int32).toInt from q))
  have e6 : x.toInt ≠ 6 := fun q => h6 (Int32.toInt_inj.mp (show x.toInt = (6 : Int32).toInt from q))
  omega
set_option maxHeartbeats 4000000 in
set_option maxRecDepth 100000 in
theorem c_L_passes (l : Launch) (hl9 : l.stackTraces = false) {B0 : Nat} {ad : Nat → Nat} {D : va_G} {T : Nat → ClassId} (hA : XA B0 ad) (p0 : Int32) {h : xH} {K : Int32 → xH → Prop} (hw : w_L_passes p0 h K) : XM l yL_passes wsL_passes ({ frames := 7, cells := 0, slots := 0, locals := 160 } : Room) B0 ad D T h [.ref (ad (0)), .ref (ad (102)), .int (p0)] xei K 0 0 := by
  unfold XM
  refine Met.ofW (cc := cL_passes) (maxL := 5) (ret := (some .boolean)) (by decide) rfl ?_
  intro p e s m args below meth c s₁ B hml hv
  obtain ⟨rfl, hB0, hP, hK, hN⟩ := hv
  have hx := B.exec
  have hb := B.bytes
  have hr := B.returns
  have hts := atoms_spec (ws := wsL_passes) B.pre
  have hown : s.vm.findClass RL = some m.cls := findClass_of_methodNamed B.named
  have hlocks := B.notSynchronized
  have hS : va_S (fun q => B0 ≤ q) s.heap s.heap [] := va_S.rf
  have hl := lv_entry ([.ref (ad (0)), .ref (ad (102)), .int (p0)]) (n := 5) (Nat.le_of_ble_eq_true rfl)
  rw [lg_entry_eq]
  generalize (lg_sl ([.ref (ad (0)), .ref (ad (102)), .int (p0)]) ++ List.replicate (5 - (lg_sl ([.ref (ad (0)), .ref (ad (102)), .int (p0)])).length) Slot.unset).toArray = ls at hl ⊢
  have hl : lv_has ls 5 [(0, .ref (ad (0))), (1, .ref (ad (102))), (2, .int (p0))] := hl
  have j_82 : ∀ (R34 : Int32 → Int32 → xH → Prop) (hR34 : ∀ (v3 : Int32) (v4 : Int32) (h : xH) (H : Heap) (locs : List Loc) (ls : Array Slot), R34 v3 v4 h → XP ad D T h H → va_S (fun q => B0 ≤ q) s.heap H locs → lv_has ls 5 [(0, .ref (ad (0))), (1, .ref (ad (102))), (2, .int (p0)), (3, .int (v3)), (4, .int (v4))] → W p l e (headSpec wsL_passes ({ frames := 7, cells := 0, slots := 0, locals := 160 } : Room)).room s m ([.ref (ad (0)), .ref (ad (102)), .int (p0)] : List Value).toArray below meth c H locs 0 0 (MQ below (XQ B0 ad D T xei K) ([.ref (ad (0)), .ref (ad (102)), .int (p0)] : List Value).toArray s 0 0 (fun q => B0 ≤ q)) (F0 m 34 ls [])) (v4 : Int32) (s0 : Int32) (h : xH) (H : Heap) (locs : List Loc) (ls : Array Slot), w_L_passes_82 p0 K R34 v4 s0 h → XP ad D T h H → va_S (fun q => B0 ≤ q) s.heap H locs → lv_has ls 5 [(0, .ref (ad (0))), (1, .ref (ad (102))), (2, .int (p0)), (4, .int (v4))] → W p l e (headSpec wsL_passes ({ frames := 7, cells := 0, slots := 0, locals := 160 } : Room)).room s m ([.ref (ad (0)), .ref (ad (102)), .int (p0)] : List Value).toArray below meth c H locs 0 0 (MQ below (XQ B0 ad D T xei K) ([.ref (ad (0)), .ref (ad (102)), .int (p0)] : List Value).toArray s 0 0 (fun q => B0 ≤ q)) (F0 m 82 ls [.int (s0)]) := by
    intro R34 hR34 v4 s0 h H locs ls hw hP hS hl 
    unfold w_L_passes_82 at hw
    refine lv_istore_n (lv' := [(3, .int (s0)), (0, .ref (ad (0))), (1, .ref (ad (102))), (2, .int (p0)), (4, .int (v4))]) hx hb dL_passes_82 rfl hl (by decide) rfl (fun ls hl => ?_)
    obtain ⟨x19, ex19⟩ : ∃ z : Int32, z = v4 + 1 := ⟨_, rfl⟩
    have hw := hw x19 ex19
    refine lv_iinc (v := x19) (lv' := [(4, .int (x19)), (3, .int (s0)), (0, .ref (ad (0))), (1, .ref (ad (102))), (2, .int (p0))]) hx hb dL_passes_83 hl (k := 4) rfl (by rw [ex19]; rfl) (by decide) rfl (fun ls hl => ?_)
    refine lv_goto (tgt := 34) hx hb dL_passes_86 (by decide) ?_
    exact hR34 (s0) (x19) _ _ _ _ hw hP hS (lv_sub hl [2, 3, 4, 1, 0] rfl)
  have j_81 : ∀ (R34 : Int32 → Int32 → xH → Prop) (hR34 : ∀ (v3 : Int32) (v4 : Int32) (h : xH) (H : Heap) (locs : List Loc) (ls : Array Slot), R34 v3 v4 h → XP ad D T h H → va_S (fun q => B0 ≤ q) s.heap H locs → lv_has ls 5 [(0, .ref (ad (0))), (1, .ref (ad (102))), (2, .int (p0)), (3, .int (v3)), (4, .int (v4))] → W p l e (headSpec wsL_passes ({ frames := 7, cells := 0, slots := 0, locals := 160 } : Room)).room s m ([.ref (ad (0)), .ref (ad (102)), .int (p0)] : List Value).toArray below meth c H locs 0 0 (MQ below (XQ B0 ad D T xei K) ([.ref (ad (0)), .ref (ad (102)), .int (p0)] : List Value).toArray s 0 0 (fun q => B0 ≤ q)) (F0 m 34 ls [])) (v4 : Int32) (h : xH) (H : Heap) (locs : List Loc) (ls : Array Slot), w_L_passes_81 p0 K R34 v4 h → XP ad D T h H → va_S (fun q => B0 ≤ q) s.heap H locs → lv_has ls 5 [(0, .ref (ad (0))), (1, .ref (ad (102))), (2, .int (p0)), (4, .int (v4))] → W p l e (headSpec wsL_passes ({ frames := 7, cells := 0, slots := 0, locals := 160 } : Room)).room s m ([.ref (ad (0)), .ref (ad (102)), .int (p0)] : List Value).toArray below meth c H locs 0 0 (MQ below (XQ B0 ad D T xei K) ([.ref (ad (0)), .ref (ad (102)), .int (p0)] : List Value).toArray s 0 0 (fun q => B0 ≤ q)) (F0 m 81 ls []) := by
    intro R34 hR34 v4 h H locs ls hw hP hS hl 
    unfold w_L_passes_81 at hw
    refine lv_iconst (v := 0) hx hb dL_passes_81 (by decide) ?_
    exact j_82 _ (hR34) (v4) (0) _ _ _ _ hw hP hS (lv_sub hl [0, 1, 2, 3] rfl)
  have j_77 : ∀ (R34 : Int32 → Int32 → xH → Prop) (hR34 : ∀ (v3 : Int32) (v4 : Int32) (h : xH) (H : Heap) (locs : List Loc) (ls : Array Slot), R34 v3 v4 h → XP ad D T h H → va_S (fun q => B0 ≤ q) s.heap H locs → lv_has ls 5 [(0, .ref (ad (0))), (1, .ref (ad (102))), (2, .int (p0)), (3, .int (v3)), (4, .int (v4))] → W p l e (headSpec wsL_passes ({ frames := 7, cells := 0, slots := 0, locals := 160 } : Room)).room s m ([.ref (ad (0)), .ref (ad (102)), .int (p0)] : List Value).toArray below meth c H locs 0 0 (MQ below (XQ B0 ad D T xei K) ([.ref (ad (0)), .ref (ad (102)), .int (p0)] : List Value).toArray s 0 0 (fun q => B0 ≤ q)) (F0 m 34 ls [])) (v4 : Int32) (h : xH) (H : Heap) (locs : List Loc) (ls : Array Slot), w_L_passes_77 p0 K R34 v4 h → XP ad D T h H → va_S (fun q => B0 ≤ q) s.heap H locs → lv_has ls 5 [(0, .ref (ad (0))), (1, .ref (ad (102))), (2, .int (p0)), (4, .int (v4))] → W p l e (headSpec wsL_passes ({ frames := 7, cells := 0, slots := 0, locals := 160 } : Room)).room s m ([.ref (ad (0)), .ref (ad (102)), .int (p0)] : List Value).toArray below meth c H locs 0 0 (MQ below (XQ B0 ad D T xei K) ([.ref (ad (0)), .ref (ad (102)), .int (p0)] : List Value).toArray s 0 0 (fun q => B0 ≤ q)) (F0 m 77 ls []) := by
    intro R34 hR34 v4 h H locs ls hw hP hS hl 
    unfold w_L_passes_77 at hw
    refine lv_iconst (v := 1) hx hb dL_passes_77 (by decide) ?_
    refine lv_goto (tgt := 82) hx hb dL_passes_78 (by decide) ?_
    exact j_82 _ (hR34) (v4) (1) _ _ _ _ hw hP hS (lv_sub hl [0, 1, 2, 3] rfl)
  have j_61 : ∀ (R34 : Int32 → Int32 → xH → Prop) (hR34 : ∀ (v3 : Int32) (v4 : Int32) (h : xH) (H : Heap) (locs : List Loc) (ls : Array Slot), R34 v3 v4 h → XP ad D T h H → va_S (fun q => B0 ≤ q) s.heap H locs → lv_has ls 5 [(0, .ref (ad (0))), (1, .ref (ad (102))), (2, .int (p0)), (3, .int (v3)), (4, .int (v4))] → W p l e (headSpec wsL_passes ({ frames := 7, cells := 0, slots := 0, locals := 160 } : Room)).room s m ([.ref (ad (0)), .ref (ad (102)), .int (p0)] : List Value).toArray below meth c H locs 0 0 (MQ below (XQ B0 ad D T xei K) ([.ref (ad (0)), .ref (ad (102)), .int (p0)] : List Value).toArray s 0 0 (fun q => B0 ≤ q)) (F0 m 34 ls [])) (v4 : Int32) (h : xH) (H : Heap) (locs : List Loc) (ls : Array Slot), w_L_passes_61 p0 K R34 v4 h → XP ad D T h H → va_S (fun q => B0 ≤ q) s.heap H locs → lv_has ls 5 [(0, .ref (ad (0))), (1, .ref (ad (102))), (2, .int (p0)), (4, .int (v4))] → W p l e (headSpec wsL_passes ({ frames := 7, cells := 0, slots := 0, locals := 160 } : Room)).room s m ([.ref (ad (0)), .ref (ad (102)), .int (p0)] : List Value).toArray below meth c H locs 0 0 (MQ below (XQ B0 ad D T xei K) ([.ref (ad (0)), .ref (ad (102)), .int (p0)] : List Value).toArray s 0 0 (fun q => B0 ≤ q)) (F0 m 61 ls []) := by
    intro R34 hR34 v4 h H locs ls hw hP hS hl 
    unfold w_L_passes_61 at hw
    refine lv_iload_n hx hb dL_passes_61 rfl (lv_at hl 2 rfl) ?_
    refine lv_aload_n hx hb dL_passes_62 rfl (lv_at hl 1 rfl) ?_
    refine lv_iconst (v := 3) hx hb dL_passes_63 (by decide) ?_
    obtain ⟨hi20, hw⟩ := hw
    refine xg_iald hx hb hK hP xs102 hi20 dL_passes_64 ?_
    refine lv_icmp_lt (tgt := 77) hx hb dL_passes_65 (by decide) (fun c21 => ?_) (fun c21 => ?_)
    · have hw := hw.1 c21
      exact j_77 _ (hR34) (v4) _ _ _ _ hw hP hS (lv_sub hl [0, 1, 2, 3] rfl)
    · have hw := hw.2 c21
      refine lv_aload_n hx hb dL_passes_68 rfl (lv_at hl 0 rfl) ?_
      refine lv_iload hx hb dL_passes_69 (lv_at hl 3 rfl) ?_
      refine xg_calli (va_runV (As := [.int (v4)]) (rest := []) ⟨hx, hb, hml, hown, hts⟩ (c_X5_tokens l hl9 hA v4 hw) (cwV 1 hts gL_passes_X5_tokens rfl rfl rfl (by decide +kernel) ⟨Nat.le_of_ble_eq_true rfl, Nat.le_of_ble_eq_true rfl⟩) (xg_preV hB0 hP hK hN hS xs0 rfl) rfl rfl hl.1 rfl (lv_room (Nat.le_of_ble_eq_true rfl)) dL_passes_71 ⟨Nat.le_of_ble_eq_true rfl, Nat.le_of_ble_eq_true rfl⟩) hS (fun r22 h23 H locs hw hP hS => ?_)
      refine lv_if_le (tgt := 81) hx hb dL_passes_74 (by decide) (fun c24 => ?_) (fun c24 => ?_)
      · have hw := hw.1 c24
        exact j_81 _ (hR34) (v4) _ _ _ _ hw hP hS (lv_sub hl [0, 1, 2, 3] rfl)
      · have hw := hw.2 c24
        exact j_77 _ (hR34) (v4) _ _ _ _ hw hP hS (lv_sub hl [0, 1, 2, 3] rfl)
  have j_34 : ∀ (n : Nat) (v3 : Int32) (v4 : Int32) (h : xH) (H : Heap) (locs : List Loc) (ls : Array Slot), w_L_passes_34 p0 K n v3 v4 h → XP ad D T h H → va_S (fun q => B0 ≤ q) s.heap H locs → lv_has ls 5 [(0, .ref (ad (0))), (1, .ref (ad (102))), (2, .int (p0)), (3, .int (v3)), (4, .int (v4))] → W p l e (headSpec wsL_passes ({ frames := 7, cells := 0, slots := 0, locals := 160 } : Room)).room s m ([.ref (ad (0)), .ref (ad (102)), .int (p0)] : List Value).toArray below meth c H locs 0 0 (MQ below (XQ B0 ad D T xei K) ([.ref (ad (0)), .ref (ad (102)), .int (p0)] : List Value).toArray s 0 0 (fun q => B0 ≤ q)) (F0 m 34 ls []) := by
    intro n
    induction n with
    | zero => intro v3 v4 h H locs ls hw; exact hw.elim
    | succ n9 ih =>
      intro v3 v4 h H locs ls hw hP hS hl 
      rw [w_L_passes_34_s] at hw
      refine lv_iload hx hb dL_passes_34 (lv_at hl 4 rfl) ?_
      refine lv_bipush (v := 6) hx hb dL_passes_36 (by decide) ?_
      refine lv_icmp_ge (tgt := 89) hx hb dL_passes_38 (by decide) (fun c11 => ?_) (fun c11 => ?_)
      · have hw := hw.1 c11
        refine lv_iload_n hx hb dL_passes_89 rfl (lv_at hl 3 rfl) ?_
        obtain ⟨hz12, hw⟩ := hw
        exact xg_irets hx hb hr hz12 hlocks hB0 hP hK hN hS dL_passes_90 (by decide) (by decide) hw
      · have hw := hw.2 c11
        refine lv_iload_n hx hb dL_passes_41 rfl (lv_at hl 3 rfl) ?_
        refine lv_if_eq (tgt := 81) hx hb dL_passes_42 (by decide) (fun c13 => ?_) (fun c13 => ?_)
        · have hw := hw.1 c13
          exact j_81 _ (ih) (v4) _ _ _ _ hw hP hS (lv_sub hl [0, 1, 2, 4] rfl)
        · have hw := hw.2 c13
          refine lv_iload_n hx hb dL_passes_45 rfl (lv_at hl 2 rfl) ?_
          refine lv_aload_n hx hb dL_passes_46 rfl (lv_at hl 1 rfl) ?_
          refine lv_iconst (v := 4) hx hb dL_passes_47 (by decide) ?_
          obtain ⟨hi14, hw⟩ := hw
          refine xg_iald hx hb hK hP xs102 hi14 dL_passes_48 ?_
          refine lv_icmp_lt (tgt := 61) hx hb dL_passes_49 (by decide) (fun c15 => ?_) (fun c15 => ?_)
          · have hw := hw.1 c15
            exact j_61 _ (ih) (v4) _ _ _ _ hw hP hS (lv_sub hl [0, 1, 2, 4] rfl)
          · have hw := hw.2 c15
            refine lv_aload_n hx hb dL_passes_52 rfl (lv_at hl 0 rfl) ?_
            refine lv_iload hx hb dL_passes_53 (lv_at hl 4 rfl) ?_
            refine xg_calli (va_runV (As := [.int (v4)]) (rest := []) ⟨hx, hb, hml, hown, hts⟩ (c_X5_repeats l hl9 hA v4 hw) (cwV 1 hts gL_passes_X5_repeats rfl rfl rfl (by decide +kernel) ⟨Nat.le_of_ble_eq_true rfl, Nat.le_of_ble_eq_true rfl⟩) (xg_preV hB0 hP hK hN hS xs0 rfl) rfl rfl hl.1 rfl (lv_room (Nat.le_of_ble_eq_true rfl)) dL_passes_55 ⟨Nat.le_of_ble_eq_true rfl, Nat.le_of_ble_eq_true rfl⟩) hS (fun r16 h17 H locs hw hP hS => ?_)
            refine lv_if_ne (tgt := 81) hx hb dL_passes_58 (by decide) (fun c18 => ?_) (fun c18 => ?_)
            · have hw := hw.2 c18
              exact j_81 _ (ih) (v4) _ _ _ _ hw hP hS (lv_sub hl [0, 1, 2, 4] rfl)
            · have hw := hw.1 c18
              exact j_61 _ (ih) (v4) _ _ _ _ hw hP hS (lv_sub hl [0, 1, 2, 4] rfl)
  have j_30 : ∀ (s0 : Int32) (h : xH) (H : Heap) (locs : List Loc) (ls : Array Slot), w_L_passes_30 p0 K s0 h → XP ad D T h H → va_S (fun q => B0 ≤ q) s.heap H locs → lv_has ls 5 [(0, .ref (ad (0))), (1, .ref (ad (102))), (2, .int (p0))] → W p l e (headSpec wsL_passes ({ frames := 7, cells := 0, slots := 0, locals := 160 } : Room)).room s m ([.ref (ad (0)), .ref (ad (102)), .int (p0)] : List Value).toArray below meth c H locs 0 0 (MQ below (XQ B0 ad D T xei K) ([.ref (ad (0)), .ref (ad (102)), .int (p0)] : List Value).toArray s 0 0 (fun q => B0 ≤ q)) (F0 m 30 ls [.int (s0)]) := by
    intro s0 h H locs ls hw hP hS hl 
    unfold w_L_passes_30 at hw
    refine lv_istore_n (lv' := [(3, .int (s0)), (0, .ref (ad (0))), (1, .ref (ad (102))), (2, .int (p0))]) hx hb dL_passes_30 rfl hl (by decide) rfl (fun ls hl => ?_)
    refine lv_iconst (v := 0) hx hb dL_passes_31 (by decide) ?_
    refine lv_istore (lv' := [(4, .int (0)), (3, .int (s0)), (0, .ref (ad (0))), (1, .ref (ad (102))), (2, .int (p0))]) hx hb dL_passes_32 hl (by decide) rfl (fun ls hl => ?_)
    obtain ⟨n9, hw⟩ := hw
    exact j_34  n9 (s0) (0) _ _ _ _ hw hP hS (lv_sub hl [2, 3, 4, 1, 0] rfl)
  have j_29 : ∀ (h : xH) (H : Heap) (locs : List Loc) (ls : Array Slot), w_L_passes_29 p0 K h → XP ad D T h H → va_S (fun q => B0 ≤ q) s.heap H locs → lv_has ls 5 [(0, .ref (ad (0))), (1, .ref (ad (102))), (2, .int (p0))] → W p l e (headSpec wsL_passes ({ frames := 7, cells := 0, slots := 0, locals := 160 } : Room)).room s m ([.ref (ad (0)), .ref (ad (102)), .int (p0)] : List Value).toArray below meth c H locs 0 0 (MQ below (XQ B0 ad D T xei K) ([.ref (ad (0)), .ref (ad (102)), .int (p0)] : List Value).toArray s 0 0 (fun q => B0 ≤ q)) (F0 m 29 ls []) := by
    intro h H locs ls hw hP hS hl 
    unfold w_L_passes_29 at hw
    refine lv_iconst (v := 0) hx hb dL_passes_29 (by decide) ?_
    exact j_30  (0) _ _ _ _ hw hP hS (lv_sub hl [0, 1, 2] rfl)
  unfold w_L_passes at hw
  refine lv_aload_n hx hb dL_passes_0 rfl (lv_at hl 1 rfl) ?_
  refine lv_iconst (v := 1) hx hb dL_passes_1 (by decide) ?_
  refine lv_dup2_11 hx hb dL_passes_2 rfl rfl ?_
  obtain ⟨hi1, hw⟩ := hw
  refine xg_iald hx hb hK hP xs102 hi1 dL_passes_3 ?_
  refine lv_iload_n hx hb dL_passes_4 rfl (lv_at hl 2 rfl) ?_
  refine lv_iadd hx hb dL_passes_5 ?_
  obtain ⟨hi2, hw⟩ := hw
  refine xg_iast hx hb hK hP hA hS xs102 hi2 dL_passes_6 (fun H locs h3 eh3 hP hS => ?_)
  have hw := hw h3 eh3
  refine lv_aload_n hx hb dL_passes_7 rfl (lv_at hl 0 rfl) ?_
  refine lv_iload_n hx hb dL_passes_8 rfl (lv_at hl 2 rfl) ?_
  refine xg_calli (va_runV (As := [.int (p0)]) (rest := []) ⟨hx, hb, hml, hown, hts⟩ (c_X5_pass l hl9 hA p0 hw) (cwV 1 hts gL_passes_X5_pass rfl rfl rfl (by decide +kernel) ⟨Nat.le_of_ble_eq_true rfl, Nat.le_of_ble_eq_true rfl⟩) (xg_preV hB0 hP hK hN hS xs0 rfl) rfl rfl hl.1 rfl (lv_room (Nat.le_of_ble_eq_true rfl)) dL_passes_9 ⟨Nat.le_of_ble_eq_true rfl, Nat.le_of_ble_eq_true rfl⟩) hS (fun r4 h5 H locs hw hP hS => ?_)
  refine lv_if_lt (tgt := 29) hx hb dL_passes_12 (by decide) (fun c6 => ?_) (fun c6 => ?_)
  · have hw := hw.1 c6
    exact j_29   _ _ _ _ hw hP hS (lv_sub hl [0, 1, 2] rfl)
  · have hw := hw.2 c6
    refine lv_aload_n hx hb dL_passes_15 rfl (lv_at hl 0 rfl) ?_
    refine xg_calli (va_runV (As := []) (rest := []) ⟨hx, hb, hml, hown, hts⟩ (c_X5_time l hl9 hA hw) (cwV 0 hts gL_passes_X5_time rfl rfl rfl (by decide +kernel) ⟨Nat.le_of_ble_eq_true rfl, Nat.le_of_ble_eq_true rfl⟩) (xg_preV hB0 hP hK hN hS xs0 rfl) rfl rfl hl.1 rfl (lv_room (Nat.le_of_ble_eq_true rfl)) dL_passes_16 ⟨Nat.le_of_ble_eq_true rfl, Nat.le_of_ble_eq_true rfl⟩) hS (fun r7 h8 H locs hw hP hS => ?_)
    refine lv_aload_n hx hb dL_passes_19 rfl (lv_at hl 1 rfl) ?_
    refine lv_iconst (v := 1) hx hb dL_passes_20 (by decide) ?_
    obtain ⟨hi9, hw⟩ := hw
    refine xg_iald hx hb hK hP xs102 hi9 dL_passes_21 ?_
    refine lv_icmp_ne (tgt := 29) hx hb dL_passes_22 (by decide) (fun c10 => ?_) (fun c10 => ?_)
    · have hw := hw.2 c10
      exact j_29   _ _ _ _ hw hP hS (lv_sub hl [0, 1, 2] rfl)
    · have hw := hw.1 c10
      refine lv_iconst (v := 1) hx hb dL_passes_25 (by decide) ?_
      refine lv_goto (tgt := 30) hx hb dL_passes_26 (by decide) ?_
      exact j_30  (1) _ _ _ _ hw hP hS (lv_sub hl [0, 1, 2] rfl)
set_option maxHeartbeats 4000000 in
set_option maxRecDepth 100000 in
theorem c_L_forwards (l : Launch) (hl9 : l.stackTraces = false) {B0 : Nat} {ad : Nat → Nat} {D : va_G} {T : Nat → ClassId} (hA : XA B0 ad) (p0 : Int32) {h : xH} {K : Int32 → xH → Prop} (hw : w_L_forwards p0 h K) : XM l yL_forwards wsL_forwards ({ frames := 3, cells := 0, slots := 0, locals := 62 } : Room) B0 ad D T h [.ref (ad (0)), .ref (ad (102)), .int (p0)] xei K 0 0 := by
  unfold XM
  refine Met.ofW (cc := cL_forwards) (maxL := 6) (ret := (some .boolean)) (by decide) rfl ?_
  intro p e s m args below meth c s₁ B hml hv
  obtain ⟨rfl, hB0, hP, hK, hN⟩ := hv
  have hx := B.exec
  have hb := B.bytes
  have hr := B.returns
  have hts := atoms_spec (ws := wsL_forwards) B.pre
  have hown : s.vm.findClass RL = some m.cls := findClass_of_methodNamed B.named
  have hlocks := B.notSynchronized
  have hS : va_S (fun q => B0 ≤ q) s.heap s.heap [] := va_S.rf
  have hl := lv_entry ([.ref (ad (0)), .ref (ad (102)), .int (p0)]) (n := 6) (Nat.le_of_ble_eq_true rfl)
  rw [lg_entry_eq]
  generalize (lg_sl ([.ref (ad (0)), .ref (ad (102)), .int (p0)]) ++ List.replicate (6 - (lg_sl ([.ref (ad (0)), .ref (ad (102)), .int (p0)])).length) Slot.unset).toArray = ls at hl ⊢
  have hl : lv_has ls 6 [(0, .ref (ad (0))), (1, .ref (ad (102))), (2, .int (p0))] := hl
  have j_181 : ∀ (h : xH) (H : Heap) (locs : List Loc) (ls : Array Slot), w_L_forwards_181 p0 K h → XP ad D T h H → va_S (fun q => B0 ≤ q) s.heap H locs → lv_has ls 6 [] → W p l e (headSpec wsL_forwards ({ frames := 3, cells := 0, slots := 0, locals := 62 } : Room)).room s m ([.ref (ad (0)), .ref (ad (102)), .int (p0)] : List Value).toArray below meth c H locs 0 0 (MQ below (XQ B0 ad D T xei K) ([.ref (ad (0)), .ref (ad (102)), .int (p0)] : List Value).toArray s 0 0 (fun q => B0 ≤ q)) (F0 m 181 ls []) := by
    intro h H locs ls hw hP hS hl 
    unfold w_L_forwards_181 at hw
    refine lv_iconst (v := 1) hx hb dL_forwards_181 (by decide) ?_
    refine lv_goto (tgt := 186) hx hb dL_forwards_182 (by decide) ?_
    exact xg_irets hx hb hr rfl hlocks hB0 hP hK hN hS dL_forwards_186 (by decide) (by decide) hw
  have j_143 : ∀ (v3 : Int32) (v4 : Int32) (h : xH) (H : Heap) (locs : List Loc) (ls : Array Slot), w_L_forwards_143 p0 K v3 v4 h → XP ad D T h H → va_S (fun q => B0 ≤ q) s.heap H locs → lv_has ls 6 [(0, .ref (ad (0))), (3, .int (v3)), (4, .int (v4))] → W p l e (headSpec wsL_forwards ({ frames := 3, cells := 0, slots := 0, locals := 62 } : Room)).room s m ([.ref (ad (0)), .ref (ad (102)), .int (p0)] : List Value).toArray below meth c H locs 0 0 (MQ below (XQ B0 ad D T xei K) ([.ref (ad (0)), .ref (ad (102)), .int (p0)] : List Value).toArray s 0 0 (fun q => B0 ≤ q)) (F0 m 143 ls []) := by
    intro v3 v4 h H locs ls hw hP hS hl 
    unfold w_L_forwards_143 at hw
    refine lv_iload_n hx hb dL_forwards_143 rfl (lv_at hl 1 rfl) ?_
    refine lv_if_eq (tgt := 181) hx hb dL_forwards_144 (by decide) (fun c41 => ?_) (fun c41 => ?_)
    · have hw := hw.1 c41
      exact j_181   _ _ _ _ hw hP hS (lv_sub hl [] rfl)
    · have hw := hw.2 c41
      refine lv_iload hx hb dL_forwards_147 (lv_at hl 2 rfl) ?_
      refine lv_iconst (v := 5) hx hb dL_forwards_149 (by decide) ?_
      refine lv_icmp_eq (tgt := 181) hx hb dL_forwards_150 (by decide) (fun c42 => ?_) (fun c42 => ?_)
      · have hw := hw.1 c42
        exact j_181   _ _ _ _ hw hP hS (lv_sub hl [] rfl)
      · have hw := hw.2 c42
        refine lv_aload_n hx hb dL_forwards_153 rfl (lv_at hl 0 rfl) ?_
        refine xg_calli (va_runV (As := []) (rest := []) ⟨hx, hb, hml, hown, hts⟩ (c_X5_send l hl9 hA hw) (cwV 0 hts gL_forwards_X5_send rfl rfl rfl (by decide +kernel) ⟨Nat.le_of_ble_eq_true rfl, Nat.le_of_ble_eq_true rfl⟩) (xg_preV hB0 hP hK hN hS xs0 rfl) rfl rfl hl.1 rfl (lv_room (Nat.le_of_ble_eq_true rfl)) dL_forwards_154 ⟨Nat.le_of_ble_eq_true rfl, Nat.le_of_ble_eq_true rfl⟩) hS (fun r43 h44 H locs hw hP hS => ?_)
        refine lv_if_lt (tgt := 185) hx hb dL_forwards_157 (by decide) (fun c45 => ?_) (fun c45 => ?_)
        · have hw := hw.1 c45
          refine lv_iconst (v := 0) hx hb dL_forwards_185 (by decide) ?_
          exact xg_irets hx hb hr rfl hlocks hB0 hP hK hN hS dL_forwards_186 (by decide) (by decide) hw
        · have hw := hw.2 c45
          refine lv_aload_n hx hb dL_forwards_160 rfl (lv_at hl 0 rfl) ?_
          refine xg_calli (va_runV (As := []) (rest := []) ⟨hx, hb, hml, hown, hts⟩ (c_X5_inFlight l hl9 hA hw) (cwV 0 hts gL_forwards_X5_inFlight rfl rfl rfl (by decide +kernel) ⟨Nat.le_of_ble_eq_true rfl, Nat.le_of_ble_eq_true rfl⟩) (xg_preV hB0 hP hK hN hS xs0 rfl) rfl rfl hl.1 rfl (lv_room (Nat.le_of_ble_eq_true rfl)) dL_forwards_161 ⟨Nat.le_of_ble_eq_true rfl, Nat.le_of_ble_eq_true rfl⟩) hS (fun r46 h47 H locs hw hP hS => ?_)
          refine lv_iload hx hb dL_forwards_164 (lv_at hl 2 rfl) ?_
          refine lv_iconst (v := 1) hx hb dL_forwards_166 (by decide) ?_
          refine lv_iadd hx hb dL_forwards_167 ?_
          refine lv_icmp_ne (tgt := 185) hx hb dL_forwards_168 (by decide) (fun c48 => ?_) (fun c48 => ?_)
          · have hw := hw.2 c48
            refine lv_iconst (v := 0) hx hb dL_forwards_185 (by decide) ?_
            exact xg_irets hx hb hr rfl hlocks hB0 hP hK hN hS dL_forwards_186 (by decide) (by decide) hw
          · have hw := hw.1 c48
            refine lv_aload_n hx hb dL_forwards_171 rfl (lv_at hl 0 rfl) ?_
            refine xg_calli (va_runV (As := []) (rest := []) ⟨hx, hb, hml, hown, hts⟩ (c_X5_queued l hl9 hA hw) (cwV 0 hts gL_forwards_X5_queued rfl rfl rfl (by decide +kernel) ⟨Nat.le_of_ble_eq_true rfl, Nat.le_of_ble_eq_true rfl⟩) (xg_preV hB0 hP hK hN hS xs0 rfl) rfl rfl hl.1 rfl (lv_room (Nat.le_of_ble_eq_true rfl)) dL_forwards_172 ⟨Nat.le_of_ble_eq_true rfl, Nat.le_of_ble_eq_true rfl⟩) hS (fun r49 h50 H locs hw hP hS => ?_)
            refine lv_iload_n hx hb dL_forwards_175 rfl (lv_at hl 1 rfl) ?_
            refine lv_iconst (v := 1) hx hb dL_forwards_176 (by decide) ?_
            refine lv_isub hx hb dL_forwards_177 ?_
            refine lv_icmp_ne (tgt := 185) hx hb dL_forwards_178 (by decide) (fun c51 => ?_) (fun c51 => ?_)
            · have hw := hw.2 c51
              refine lv_iconst (v := 0) hx hb dL_forwards_185 (by decide) ?_
              exact xg_irets hx hb hr rfl hlocks hB0 hP hK hN hS dL_forwards_186 (by decide) (by decide) hw
            · have hw := hw.1 c51
              exact j_181   _ _ _ _ hw hP hS (lv_sub hl [] rfl)
  unfold w_L_forwards at hw
  refine lv_aload_n hx hb dL_forwards_0 rfl (lv_at hl 0 rfl) ?_
  refine xg_calli (va_runV (As := []) (rest := []) ⟨hx, hb, hml, hown, hts⟩ (c_X5_queued l hl9 hA hw) (cwV 0 hts gL_forwards_X5_queued rfl rfl rfl (by decide +kernel) ⟨Nat.le_of_ble_eq_true rfl, Nat.le_of_ble_eq_true rfl⟩) (xg_preV hB0 hP hK hN hS xs0 rfl) rfl rfl hl.1 rfl (lv_room (Nat.le_of_ble_eq_true rfl)) dL_forwards_1 ⟨Nat.le_of_ble_eq_true rfl, Nat.le_of_ble_eq_true rfl⟩) hS (fun r1 h2 H locs hw hP hS => ?_)
  refine lv_istore_n (lv' := [(3, .int (r1)), (0, .ref (ad (0))), (1, .ref (ad (102))), (2, .int (p0))]) hx hb dL_forwards_4 rfl hl (by decide) rfl (fun ls hl => ?_)
  refine lv_aload_n hx hb dL_forwards_5 rfl (lv_at hl 1 rfl) ?_
  refine xg_calli (va_runV (As := []) (rest := []) ⟨hx, hb, hml, hown, hts⟩ (c_X5_inFlight l hl9 hA hw) (cwV 0 hts gL_forwards_X5_inFlight rfl rfl rfl (by decide +kernel) ⟨Nat.le_of_ble_eq_true rfl, Nat.le_of_ble_eq_true rfl⟩) (xg_preV hB0 hP hK hN hS xs0 rfl) rfl rfl hl.1 rfl (lv_room (Nat.le_of_ble_eq_true rfl)) dL_forwards_6 ⟨Nat.le_of_ble_eq_true rfl, Nat.le_of_ble_eq_true rfl⟩) hS (fun r3 h4 H locs hw hP hS => ?_)
  refine lv_istore (lv' := [(4, .int (r3)), (3, .int (r1)), (0, .ref (ad (0))), (1, .ref (ad (102))), (2, .int (p0))]) hx hb dL_forwards_9 hl (by decide) rfl (fun ls hl => ?_)
  refine lv_aload_n hx hb dL_forwards_11 rfl (lv_at hl 3 rfl) ?_
  refine lv_iconst (v := 5) hx hb dL_forwards_12 (by decide) ?_
  obtain ⟨hi5, hw⟩ := hw
  refine xg_iald hx hb hK hP xs102 hi5 dL_forwards_13 ?_
  refine lv_if_ne (tgt := 40) hx hb dL_forwards_14 (by decide) (fun c6 => ?_) (fun c6 => ?_)
  · have hw := hw.2 c6
    refine lv_iload_n hx hb dL_forwards_40 rfl (lv_at hl 4 rfl) ?_
    refine lv_iconst (v := 5) hx hb dL_forwards_41 (by decide) ?_
    refine lv_irem hx hb dL_forwards_42 (by decide) ?_
    refine lv_if_ne (tgt := 83) hx hb dL_forwards_43 (by decide) (fun c7 => ?_) (fun c7 => ?_)
    · have hw := hw.2 c7
      refine lv_iload_n hx hb dL_forwards_83 rfl (lv_at hl 4 rfl) ?_
      refine lv_iconst (v := 2) hx hb dL_forwards_84 (by decide) ?_
      refine lv_irem hx hb dL_forwards_85 (by decide) ?_
      refine lv_if_ne (tgt := 143) hx hb dL_forwards_86 (by decide) (fun c8 => ?_) (fun c8 => ?_)
      · have hw := hw.2 c8
        exact j_143  (r1) (r3) _ _ _ _ hw hP hS (lv_sub hl [2, 1, 0] rfl)
      · have hw := hw.1 c8
        refine lv_iload hx hb dL_forwards_89 (lv_at hl 0 rfl) ?_
        refine lv_if_le (tgt := 143) hx hb dL_forwards_91 (by decide) (fun c9 => ?_) (fun c9 => ?_)
        · have hw := hw.1 c9
          exact j_143  (r1) (r3) _ _ _ _ hw hP hS (lv_sub hl [2, 1, 0] rfl)
        · have hw := hw.2 c9
          refine lv_aload_n hx hb dL_forwards_94 rfl (lv_at hl 2 rfl) ?_
          refine xg_calli (va_runV (As := []) (rest := []) ⟨hx, hb, hml, hown, hts⟩ (c_X5_acknowledged l hl9 hA hw) (cwV 0 hts gL_forwards_X5_acknowledged rfl rfl rfl (by decide +kernel) ⟨Nat.le_of_ble_eq_true rfl, Nat.le_of_ble_eq_true rfl⟩) (xg_preV hB0 hP hK hN hS xs0 rfl) rfl rfl hl.1 rfl (lv_room (Nat.le_of_ble_eq_true rfl)) dL_forwards_95 ⟨Nat.le_of_ble_eq_true rfl, Nat.le_of_ble_eq_true rfl⟩) hS (fun r10 h11 H locs hw hP hS => ?_)
          refine lv_istore (lv' := [(5, .int (r10)), (4, .int (r3)), (3, .int (r1)), (0, .ref (ad (0))), (1, .ref (ad (102))), (2, .int (p0))]) hx hb dL_forwards_98 hl (by decide) rfl (fun ls hl => ?_)
          refine lv_aload_n hx hb dL_forwards_100 rfl (lv_at hl 3 rfl) ?_
          refine xg_calli (va_runV (As := []) (rest := []) ⟨hx, hb, hml, hown, hts⟩ (c_X5_acknowledge l hl9 hA hw) (cwV 0 hts gL_forwards_X5_acknowledge rfl rfl rfl (by decide +kernel) ⟨Nat.le_of_ble_eq_true rfl, Nat.le_of_ble_eq_true rfl⟩) (xg_preV hB0 hP hK hN hS xs0 rfl) rfl rfl hl.1 rfl (lv_room (Nat.le_of_ble_eq_true rfl)) dL_forwards_101 ⟨Nat.le_of_ble_eq_true rfl, Nat.le_of_ble_eq_true rfl⟩) hS (fun r12 h13 H locs hw hP hS => ?_)
          refine lv_if_lt (tgt := 141) hx hb dL_forwards_104 (by decide) (fun c14 => ?_) (fun c14 => ?_)
          · have hw := hw.1 c14
            refine lv_iconst (v := 0) hx hb dL_forwards_141 (by decide) ?_
            exact xg_irets hx hb hr rfl hlocks hB0 hP hK hN hS dL_forwards_142 (by decide) (by decide) hw
          · have hw := hw.2 c14
            refine lv_aload_n hx hb dL_forwards_107 rfl (lv_at hl 3 rfl) ?_
            refine xg_calli (va_runV (As := []) (rest := []) ⟨hx, hb, hml, hown, hts⟩ (c_X5_acknowledged l hl9 hA hw) (cwV 0 hts gL_forwards_X5_acknowledged rfl rfl rfl (by decide +kernel) ⟨Nat.le_of_ble_eq_true rfl, Nat.le_of_ble_eq_true rfl⟩) (xg_preV hB0 hP hK hN hS xs0 rfl) rfl rfl hl.1 rfl (lv_room (Nat.le_of_ble_eq_true rfl)) dL_forwards_108 ⟨Nat.le_of_ble_eq_true rfl, Nat.le_of_ble_eq_true rfl⟩) hS (fun r15 h16 H locs hw hP hS => ?_)
            refine lv_iload hx hb dL_forwards_111 (lv_at hl 0 rfl) ?_
            refine lv_iconst (v := 1) hx hb dL_forwards_113 (by decide) ?_
            refine lv_iadd hx hb dL_forwards_114 ?_
            refine lv_icmp_ne (tgt := 141) hx hb dL_forwards_115 (by decide) (fun c17 => ?_) (fun c17 => ?_)
            · have hw := hw.2 c17
              refine lv_iconst (v := 0) hx hb dL_forwards_141 (by decide) ?_
              exact xg_irets hx hb hr rfl hlocks hB0 hP hK hN hS dL_forwards_142 (by decide) (by decide) hw
            · have hw := hw.1 c17
              refine lv_aload_n hx hb dL_forwards_118 rfl (lv_at hl 3 rfl) ?_
              refine xg_calli (va_runV (As := []) (rest := []) ⟨hx, hb, hml, hown, hts⟩ (c_X5_inFlight l hl9 hA hw) (cwV 0 hts gL_forwards_X5_inFlight rfl rfl rfl (by decide +kernel) ⟨Nat.le_of_ble_eq_true rfl, Nat.le_of_ble_eq_true rfl⟩) (xg_preV hB0 hP hK hN hS xs0 rfl) rfl rfl hl.1 rfl (lv_room (Nat.le_of_ble_eq_true rfl)) dL_forwards_119 ⟨Nat.le_of_ble_eq_true rfl, Nat.le_of_ble_eq_true rfl⟩) hS (fun r18 h19 H locs hw hP hS => ?_)
              refine lv_iload hx hb dL_forwards_122 (lv_at hl 1 rfl) ?_
              refine lv_iconst (v := 1) hx hb dL_forwards_124 (by decide) ?_
              refine lv_isub hx hb dL_forwards_125 ?_
              refine lv_icmp_ne (tgt := 141) hx hb dL_forwards_126 (by decide) (fun c20 => ?_) (fun c20 => ?_)
              · have hw := hw.2 c20
                refine lv_iconst (v := 0) hx hb dL_forwards_141 (by decide) ?_
                exact xg_irets hx hb hr rfl hlocks hB0 hP hK hN hS dL_forwards_142 (by decide) (by decide) hw
              · have hw := hw.1 c20
                refine lv_aload_n hx hb dL_forwards_129 rfl (lv_at hl 3 rfl) ?_
                refine xg_calli (va_runV (As := []) (rest := []) ⟨hx, hb, hml, hown, hts⟩ (c_X5_queued l hl9 hA hw) (cwV 0 hts gL_forwards_X5_queued rfl rfl rfl (by decide +kernel) ⟨Nat.le_of_ble_eq_true rfl, Nat.le_of_ble_eq_true rfl⟩) (xg_preV hB0 hP hK hN hS xs0 rfl) rfl rfl hl.1 rfl (lv_room (Nat.le_of_ble_eq_true rfl)) dL_forwards_130 ⟨Nat.le_of_ble_eq_true rfl, Nat.le_of_ble_eq_true rfl⟩) hS (fun r21 h22 H locs hw hP hS => ?_)
                refine lv_iload_n hx hb dL_forwards_133 rfl (lv_at hl 2 rfl) ?_
                refine lv_icmp_ne (tgt := 141) hx hb dL_forwards_134 (by decide) (fun c23 => ?_) (fun c23 => ?_)
                · have hw := hw.2 c23
                  refine lv_iconst (v := 0) hx hb dL_forwards_141 (by decide) ?_
                  exact xg_irets hx hb hr rfl hlocks hB0 hP hK hN hS dL_forwards_142 (by decide) (by decide) hw
                · have hw := hw.1 c23
                  refine lv_iconst (v := 1) hx hb dL_forwards_137 (by decide) ?_
                  refine lv_goto (tgt := 142) hx hb dL_forwards_138 (by decide) ?_
                  exact xg_irets hx hb hr rfl hlocks hB0 hP hK hN hS dL_forwards_142 (by decide) (by decide) hw
    · have hw := hw.1 c7
      refine lv_aload_n hx hb dL_forwards_46 rfl (lv_at hl 3 rfl) ?_
      refine lv_iconst (v := 5) hx hb dL_forwards_47 (by decide) ?_
      refine lv_iconst (v := 0) hx hb dL_forwards_48 (by decide) ?_
      obtain ⟨hi24, hw⟩ := hw
      refine xg_iast hx hb hK hP hA hS xs102 hi24 dL_forwards_49 (fun H locs h25 eh25 hP hS => ?_)
      have hw := hw h25 eh25
      refine lv_aload_n hx hb dL_forwards_50 rfl (lv_at hl 2 rfl) ?_
      refine xg_calli (va_runV (As := []) (rest := []) ⟨hx, hb, hml, hown, hts⟩ (c_X5_disconnect l hl9 hA hw) (cwV 0 hts gL_forwards_X5_disconnect rfl rfl rfl (by decide +kernel) ⟨Nat.le_of_ble_eq_true rfl, Nat.le_of_ble_eq_true rfl⟩) (xg_preV hB0 hP hK hN hS xs0 rfl) rfl rfl hl.1 rfl (lv_room (Nat.le_of_ble_eq_true rfl)) dL_forwards_51 ⟨Nat.le_of_ble_eq_true rfl, Nat.le_of_ble_eq_true rfl⟩) hS (fun r26 h27 H locs hw hP hS => ?_)
      refine lv_iload hx hb dL_forwards_54 (lv_at hl 0 rfl) ?_
      refine lv_icmp_ne (tgt := 81) hx hb dL_forwards_56 (by decide) (fun c28 => ?_) (fun c28 => ?_)
      · have hw := hw.2 c28
        refine lv_iconst (v := 0) hx hb dL_forwards_81 (by decide) ?_
        exact xg_irets hx hb hr rfl hlocks hB0 hP hK hN hS dL_forwards_82 (by decide) (by decide) hw
      · have hw := hw.1 c28
        refine lv_aload_n hx hb dL_forwards_59 rfl (lv_at hl 2 rfl) ?_
        refine xg_calli (va_runV (As := []) (rest := []) ⟨hx, hb, hml, hown, hts⟩ (c_X5_queued l hl9 hA hw) (cwV 0 hts gL_forwards_X5_queued rfl rfl rfl (by decide +kernel) ⟨Nat.le_of_ble_eq_true rfl, Nat.le_of_ble_eq_true rfl⟩) (xg_preV hB0 hP hK hN hS xs0 rfl) rfl rfl hl.1 rfl (lv_room (Nat.le_of_ble_eq_true rfl)) dL_forwards_60 ⟨Nat.le_of_ble_eq_true rfl, Nat.le_of_ble_eq_true rfl⟩) hS (fun r29 h30 H locs hw hP hS => ?_)
        refine lv_iload_n hx hb dL_forwards_63 rfl (lv_at hl 1 rfl) ?_
        refine lv_iload hx hb dL_forwards_64 (lv_at hl 0 rfl) ?_
        refine lv_iadd hx hb dL_forwards_66 ?_
        refine lv_icmp_ne (tgt := 81) hx hb dL_forwards_67 (by decide) (fun c31 => ?_) (fun c31 => ?_)
        · have hw := hw.2 c31
          refine lv_iconst (v := 0) hx hb dL_forwards_81 (by decide) ?_
          exact xg_irets hx hb hr rfl hlocks hB0 hP hK hN hS dL_forwards_82 (by decide) (by decide) hw
        · have hw := hw.1 c31
          refine lv_aload_n hx hb dL_forwards_70 rfl (lv_at hl 2 rfl) ?_
          refine xg_calli (va_runV (As := []) (rest := []) ⟨hx, hb, hml, hown, hts⟩ (c_X5_inFlight l hl9 hA hw) (cwV 0 hts gL_forwards_X5_inFlight rfl rfl rfl (by decide +kernel) ⟨Nat.le_of_ble_eq_true rfl, Nat.le_of_ble_eq_true rfl⟩) (xg_preV hB0 hP hK hN hS xs0 rfl) rfl rfl hl.1 rfl (lv_room (Nat.le_of_ble_eq_true rfl)) dL_forwards_71 ⟨Nat.le_of_ble_eq_true rfl, Nat.le_of_ble_eq_true rfl⟩) hS (fun r32 h33 H locs hw hP hS => ?_)
          refine lv_if_ne (tgt := 81) hx hb dL_forwards_74 (by decide) (fun c34 => ?_) (fun c34 => ?_)
          · have hw := hw.2 c34
            refine lv_iconst (v := 0) hx hb dL_forwards_81 (by decide) ?_
            exact xg_irets hx hb hr rfl hlocks hB0 hP hK hN hS dL_forwards_82 (by decide) (by decide) hw
          · have hw := hw.1 c34
            refine lv_iconst (v := 1) hx hb dL_forwards_77 (by decide) ?_
            refine lv_goto (tgt := 82) hx hb dL_forwards_78 (by decide) ?_
            exact xg_irets hx hb hr rfl hlocks hB0 hP hK hN hS dL_forwards_82 (by decide) (by decide) hw
  · have hw := hw.1 c6
    refine lv_aload_n hx hb dL_forwards_17 rfl (lv_at hl 3 rfl) ?_
    refine lv_iconst (v := 5) hx hb dL_forwards_18 (by decide) ?_
    refine lv_iconst (v := 1) hx hb dL_forwards_19 (by decide) ?_
    obtain ⟨hi35, hw⟩ := hw
    refine xg_iast hx hb hK hP hA hS xs102 hi35 dL_forwards_20 (fun H locs h36 eh36 hP hS => ?_)
    have hw := hw h36 eh36
    refine lv_iload hx hb dL_forwards_21 (lv_at hl 0 rfl) ?_
    refine lv_if_ne (tgt := 38) hx hb dL_forwards_23 (by decide) (fun c37 => ?_) (fun c37 => ?_)
    · have hw := hw.2 c37
      refine lv_iconst (v := 0) hx hb dL_forwards_38 (by decide) ?_
      exact xg_irets hx hb hr rfl hlocks hB0 hP hK hN hS dL_forwards_39 (by decide) (by decide) hw
    · have hw := hw.1 c37
      refine lv_aload_n hx hb dL_forwards_26 rfl (lv_at hl 2 rfl) ?_
      refine xg_calli (va_runV (As := []) (rest := []) ⟨hx, hb, hml, hown, hts⟩ (c_X5_connect l hl9 hA hw) (cwV 0 hts gL_forwards_X5_connect rfl rfl rfl (by decide +kernel) ⟨Nat.le_of_ble_eq_true rfl, Nat.le_of_ble_eq_true rfl⟩) (xg_preV hB0 hP hK hN hS xs0 rfl) rfl rfl hl.1 rfl (lv_room (Nat.le_of_ble_eq_true rfl)) dL_forwards_27 ⟨Nat.le_of_ble_eq_true rfl, Nat.le_of_ble_eq_true rfl⟩) hS (fun r38 h39 H locs hw hP hS => ?_)
      refine lv_iload_n hx hb dL_forwards_30 rfl (lv_at hl 1 rfl) ?_
      refine lv_icmp_ne (tgt := 38) hx hb dL_forwards_31 (by decide) (fun c40 => ?_) (fun c40 => ?_)
      · have hw := hw.2 c40
        refine lv_iconst (v := 0) hx hb dL_forwards_38 (by decide) ?_
        exact xg_irets hx hb hr rfl hlocks hB0 hP hK hN hS dL_forwards_39 (by decide) (by decide) hw
      · have hw := hw.1 c40
        refine lv_iconst (v := 1) hx hb dL_forwards_34 (by decide) ?_
        refine lv_goto (tgt := 39) hx hb dL_forwards_35 (by decide) ?_
        exact xg_irets hx hb hr rfl hlocks hB0 hP hK hN hS dL_forwards_39 (by decide) (by decide) hw
set_option maxHeartbeats 4000000 in
set_option maxRecDepth 100000 in
theorem c_L_comes (l : Launch) (hl9 : l.stackTraces = false) {B0 : Nat} {ad : Nat → Nat} {D : va_G} {T : Nat → ClassId} (hA : XA B0 ad) (p0 : Int32) (p1 : Int32) (p2 : Int32) (p3 : Int32) (p4 : Int32) {h : xH} {K : Int32 → xH → Prop} (hw : w_L_comes p0 p1 p2 p3 p4 h K) : XM l yL_comes wsL_comes ({ frames := 5, cells := 0, slots := 0, locals := 122 } : Room) B0 ad D T h [.ref (ad (0)), .ref (ad (101)), .ref (ad (102)), .int (p0), .int (p1), .int (p2), .int (p3), .int (p4)] xei K 0 0 := by
  unfold XM
  refine Met.ofW (cc := cL_comes) (maxL := 15) (ret := (some .boolean)) (by decide) rfl ?_
  intro p e s m args below meth c s₁ B hml hv
  obtain ⟨rfl, hB0, hP, hK, hN⟩ := hv
  have hx := B.exec
  have hb := B.bytes
  have hr := B.returns
  have hts := atoms_spec (ws := wsL_comes) B.pre
  have hown : s.vm.findClass RL = some m.cls := findClass_of_methodNamed B.named
  have hlocks := B.notSynchronized
  have hS : va_S (fun q => B0 ≤ q) s.heap s.heap [] := va_S.rf
  have hl := lv_entry ([.ref (ad (0)), .ref (ad (101)), .ref (ad (102)), .int (p0), .int (p1), .int (p2), .int (p3), .int (p4)]) (n := 15) (Nat.le_of_ble_eq_true rfl)
  rw [lg_entry_eq]
  generalize (lg_sl ([.ref (ad (0)), .ref (ad (101)), .ref (ad (102)), .int (p0), .int (p1), .int (p2), .int (p3), .int (p4)]) ++ List.replicate (15 - (lg_sl ([.ref (ad (0)), .ref (ad (101)), .ref (ad (102)), .int (p0), .int (p1), .int (p2), .int (p3), .int (p4)])).length) Slot.unset).toArray = ls at hl ⊢
  have hl : lv_has ls 15 [(0, .ref (ad (0))), (1, .ref (ad (101))), (2, .ref (ad (102))), (3, .int (p0)), (4, .int (p1)), (5, .int (p2)), (6, .int (p3)), (7, .int (p4))] := hl
  have j_281 : ∀ (R230 : Int32 → Int32 → Int32 → Int32 → xH → Prop) (hR230 : ∀ (v8 : Int32) (v11 : Int32) (v13 : Int32) (v14 : Int32) (h : xH) (H : Heap) (locs : List Loc) (ls : Array Slot), R230 v8 v11 v13 v14 h → XP ad D T h H → va_S (fun q => B0 ≤ q) s.heap H locs → lv_has ls 15 [(0, .ref (ad (0))), (3, .int (p0)), (8, .int (v8)), (11, .int (v11)), (13, .int (v13)), (14, .int (v14))] → W p l e (headSpec wsL_comes ({ frames := 5, cells := 0, slots := 0, locals := 122 } : Room)).room s m ([.ref (ad (0)), .ref (ad (101)), .ref (ad (102)), .int (p0), .int (p1), .int (p2), .int (p3), .int (p4)] : List Value).toArray below meth c H locs 0 0 (MQ below (XQ B0 ad D T xei K) ([.ref (ad (0)), .ref (ad (101)), .ref (ad (102)), .int (p0), .int (p1), .int (p2), .int (p3), .int (p4)] : List Value).toArray s 0 0 (fun q => B0 ≤ q)) (F0 m 230 ls [])) (v8 : Int32) (v11 : Int32) (v14 : Int32) (s0 : Int32) (h : xH) (H : Heap) (locs : List Loc) (ls : Array Slot), w_L_comes_281 p0 p1 p2 p3 p4 K R230 v8 v11 v14 s0 h → XP ad D T h H → va_S (fun q => B0 ≤ q) s.heap H locs → lv_has ls 15 [(0, .ref (ad (0))), (3, .int (p0)), (8, .int (v8)), (11, .int (v11)), (14, .int (v14))] → W p l e (headSpec wsL_comes ({ frames := 5, cells := 0, slots := 0, locals := 122 } : Room)).room s m ([.ref (ad (0)), .ref (ad (101)), .ref (ad (102)), .int (p0), .int (p1), .int (p2), .int (p3), .int (p4)] : List Value).toArray below meth c H locs 0 0 (MQ below (XQ B0 ad D T xei K) ([.ref (ad (0)), .ref (ad (101)), .ref (ad (102)), .int (p0), .int (p1), .int (p2), .int (p3), .int (p4)] : List Value).toArray s 0 0 (fun q => B0 ≤ q)) (F0 m 281 ls [.int (s0)]) := by
    intro R230 hR230 v8 v11 v14 s0 h H locs ls hw hP hS hl 
    unfold w_L_comes_281 at hw
    refine lv_istore (lv' := [(13, .int (s0)), (0, .ref (ad (0))), (3, .int (p0)), (8, .int (v8)), (11, .int (v11)), (14, .int (v14))]) hx hb dL_comes_281 hl (by decide) rfl (fun ls hl => ?_)
    obtain ⟨x67, ex67⟩ : ∃ z : Int32, z = v14 + 1 := ⟨_, rfl⟩
    have hw := hw x67 ex67
    refine lv_iinc (v := x67) (lv' := [(14, .int (x67)), (13, .int (s0)), (0, .ref (ad (0))), (3, .int (p0)), (8, .int (v8)), (11, .int (v11))]) hx hb dL_comes_283 hl (k := 5) rfl (by rw [ex67]; rfl) (by decide) rfl (fun ls hl => ?_)
    refine lv_goto (tgt := 230) hx hb dL_comes_286 (by decide) ?_
    exact hR230 (v8) (v11) (s0) (x67) _ _ _ _ hw hP hS (lv_sub hl [2, 3, 4, 5, 1, 0] rfl)
  have j_280 : ∀ (R230 : Int32 → Int32 → Int32 → Int32 → xH → Prop) (hR230 : ∀ (v8 : Int32) (v11 : Int32) (v13 : Int32) (v14 : Int32) (h : xH) (H : Heap) (locs : List Loc) (ls : Array Slot), R230 v8 v11 v13 v14 h → XP ad D T h H → va_S (fun q => B0 ≤ q) s.heap H locs → lv_has ls 15 [(0, .ref (ad (0))), (3, .int (p0)), (8, .int (v8)), (11, .int (v11)), (13, .int (v13)), (14, .int (v14))] → W p l e (headSpec wsL_comes ({ frames := 5, cells := 0, slots := 0, locals := 122 } : Room)).room s m ([.ref (ad (0)), .ref (ad (101)), .ref (ad (102)), .int (p0), .int (p1), .int (p2), .int (p3), .int (p4)] : List Value).toArray below meth c H locs 0 0 (MQ below (XQ B0 ad D T xei K) ([.ref (ad (0)), .ref (ad (101)), .ref (ad (102)), .int (p0), .int (p1), .int (p2), .int (p3), .int (p4)] : List Value).toArray s 0 0 (fun q => B0 ≤ q)) (F0 m 230 ls [])) (v8 : Int32) (v11 : Int32) (v14 : Int32) (h : xH) (H : Heap) (locs : List Loc) (ls : Array Slot), w_L_comes_280 p0 p1 p2 p3 p4 K R230 v8 v11 v14 h → XP ad D T h H → va_S (fun q => B0 ≤ q) s.heap H locs → lv_has ls 15 [(0, .ref (ad (0))), (3, .int (p0)), (8, .int (v8)), (11, .int (v11)), (14, .int (v14))] → W p l e (headSpec wsL_comes ({ frames := 5, cells := 0, slots := 0, locals := 122 } : Room)).room s m ([.ref (ad (0)), .ref (ad (101)), .ref (ad (102)), .int (p0), .int (p1), .int (p2), .int (p3), .int (p4)] : List Value).toArray below meth c H locs 0 0 (MQ below (XQ B0 ad D T xei K) ([.ref (ad (0)), .ref (ad (101)), .ref (ad (102)), .int (p0), .int (p1), .int (p2), .int (p3), .int (p4)] : List Value).toArray s 0 0 (fun q => B0 ≤ q)) (F0 m 280 ls []) := by
    intro R230 hR230 v8 v11 v14 h H locs ls hw hP hS hl 
    unfold w_L_comes_280 at hw
    refine lv_iconst (v := 0) hx hb dL_comes_280 (by decide) ?_
    exact j_281 _ (hR230) (v8) (v11) (v14) (0) _ _ _ _ hw hP hS (lv_sub hl [0, 1, 2, 3, 4] rfl)
  have j_276 : ∀ (R230 : Int32 → Int32 → Int32 → Int32 → xH → Prop) (hR230 : ∀ (v8 : Int32) (v11 : Int32) (v13 : Int32) (v14 : Int32) (h : xH) (H : Heap) (locs : List Loc) (ls : Array Slot), R230 v8 v11 v13 v14 h → XP ad D T h H → va_S (fun q => B0 ≤ q) s.heap H locs → lv_has ls 15 [(0, .ref (ad (0))), (3, .int (p0)), (8, .int (v8)), (11, .int (v11)), (13, .int (v13)), (14, .int (v14))] → W p l e (headSpec wsL_comes ({ frames := 5, cells := 0, slots := 0, locals := 122 } : Room)).room s m ([.ref (ad (0)), .ref (ad (101)), .ref (ad (102)), .int (p0), .int (p1), .int (p2), .int (p3), .int (p4)] : List Value).toArray below meth c H locs 0 0 (MQ below (XQ B0 ad D T xei K) ([.ref (ad (0)), .ref (ad (101)), .ref (ad (102)), .int (p0), .int (p1), .int (p2), .int (p3), .int (p4)] : List Value).toArray s 0 0 (fun q => B0 ≤ q)) (F0 m 230 ls [])) (v8 : Int32) (v11 : Int32) (v14 : Int32) (h : xH) (H : Heap) (locs : List Loc) (ls : Array Slot), w_L_comes_276 p0 p1 p2 p3 p4 K R230 v8 v11 v14 h → XP ad D T h H → va_S (fun q => B0 ≤ q) s.heap H locs → lv_has ls 15 [(0, .ref (ad (0))), (3, .int (p0)), (8, .int (v8)), (11, .int (v11)), (14, .int (v14))] → W p l e (headSpec wsL_comes ({ frames := 5, cells := 0, slots := 0, locals := 122 } : Room)).room s m ([.ref (ad (0)), .ref (ad (101)), .ref (ad (102)), .int (p0), .int (p1), .int (p2), .int (p3), .int (p4)] : List Value).toArray below meth c H locs 0 0 (MQ below (XQ B0 ad D T xei K) ([.ref (ad (0)), .ref (ad (101)), .ref (ad (102)), .int (p0), .int (p1), .int (p2), .int (p3), .int (p4)] : List Value).toArray s 0 0 (fun q => B0 ≤ q)) (F0 m 276 ls []) := by
    intro R230 hR230 v8 v11 v14 h H locs ls hw hP hS hl 
    unfold w_L_comes_276 at hw
    refine lv_iconst (v := 1) hx hb dL_comes_276 (by decide) ?_
    refine lv_goto (tgt := 281) hx hb dL_comes_277 (by decide) ?_
    exact j_281 _ (hR230) (v8) (v11) (v14) (1) _ _ _ _ hw hP hS (lv_sub hl [0, 1, 2, 3, 4] rfl)
  have j_230 : ∀ (n : Nat) (v8 : Int32) (v11 : Int32) (v13 : Int32) (v14 : Int32) (h : xH) (H : Heap) (locs : List Loc) (ls : Array Slot), w_L_comes_230 p0 p1 p2 p3 p4 K n v8 v11 v13 v14 h → XP ad D T h H → va_S (fun q => B0 ≤ q) s.heap H locs → lv_has ls 15 [(0, .ref (ad (0))), (3, .int (p0)), (8, .int (v8)), (11, .int (v11)), (13, .int (v13)), (14, .int (v14))] → W p l e (headSpec wsL_comes ({ frames := 5, cells := 0, slots := 0, locals := 122 } : Room)).room s m ([.ref (ad (0)), .ref (ad (101)), .ref (ad (102)), .int (p0), .int (p1), .int (p2), .int (p3), .int (p4)] : List Value).toArray below meth c H locs 0 0 (MQ below (XQ B0 ad D T xei K) ([.ref (ad (0)), .ref (ad (101)), .ref (ad (102)), .int (p0), .int (p1), .int (p2), .int (p3), .int (p4)] : List Value).toArray s 0 0 (fun q => B0 ≤ q)) (F0 m 230 ls []) := by
    intro n
    induction n with
    | zero => intro v8 v11 v13 v14 h H locs ls hw; exact hw.elim
    | succ n9 ih =>
      intro v8 v11 v13 v14 h H locs ls hw hP hS hl 
      rw [w_L_comes_230_s] at hw
      refine lv_iload hx hb dL_comes_230 (lv_at hl 5 rfl) ?_
      refine lv_iconst (v := 4) hx hb dL_comes_232 (by decide) ?_
      refine lv_icmp_ge (tgt := 289) hx hb dL_comes_233 (by decide) (fun c49 => ?_) (fun c49 => ?_)
      · have hw := hw.1 c49
        refine lv_iload hx hb dL_comes_289 (lv_at hl 4 rfl) ?_
        refine lv_if_eq (tgt := 323) hx hb dL_comes_291 (by decide) (fun c50 => ?_) (fun c50 => ?_)
        · have hw := hw.1 c50
          refine lv_iconst (v := 0) hx hb dL_comes_323 (by decide) ?_
          exact xg_irets hx hb hr rfl hlocks hB0 hP hK hN hS dL_comes_324 (by decide) (by decide) hw
        · have hw := hw.2 c50
          refine lv_iload hx hb dL_comes_294 (lv_at hl 2 rfl) ?_
          refine lv_if_le (tgt := 323) hx hb dL_comes_296 (by decide) (fun c51 => ?_) (fun c51 => ?_)
          · have hw := hw.1 c51
            refine lv_iconst (v := 0) hx hb dL_comes_323 (by decide) ?_
            exact xg_irets hx hb hr rfl hlocks hB0 hP hK hN hS dL_comes_324 (by decide) (by decide) hw
          · have hw := hw.2 c51
            refine lv_aload_n hx hb dL_comes_299 rfl (lv_at hl 0 rfl) ?_
            refine lv_iload_n hx hb dL_comes_300 rfl (lv_at hl 1 rfl) ?_
            refine xg_calli (va_runV (As := [.int (p0)]) (rest := []) ⟨hx, hb, hml, hown, hts⟩ (c_X5_tokens l hl9 hA p0 hw) (cwV 1 hts gL_comes_X5_tokens rfl rfl rfl (by decide +kernel) ⟨Nat.le_of_ble_eq_true rfl, Nat.le_of_ble_eq_true rfl⟩) (xg_preV hB0 hP hK hN hS xs0 rfl) rfl rfl hl.1 rfl (lv_room (Nat.le_of_ble_eq_true rfl)) dL_comes_301 ⟨Nat.le_of_ble_eq_true rfl, Nat.le_of_ble_eq_true rfl⟩) hS (fun r52 h53 H locs hw hP hS => ?_)
            refine lv_iload hx hb dL_comes_304 (lv_at hl 2 rfl) ?_
            refine lv_iconst (v := 1) hx hb dL_comes_306 (by decide) ?_
            refine lv_isub hx hb dL_comes_307 ?_
            refine lv_icmp_ne (tgt := 323) hx hb dL_comes_308 (by decide) (fun c54 => ?_) (fun c54 => ?_)
            · have hw := hw.2 c54
              refine lv_iconst (v := 0) hx hb dL_comes_323 (by decide) ?_
              exact xg_irets hx hb hr rfl hlocks hB0 hP hK hN hS dL_comes_324 (by decide) (by decide) hw
            · have hw := hw.1 c54
              refine lv_aload_n hx hb dL_comes_311 rfl (lv_at hl 0 rfl) ?_
              refine lv_iload_n hx hb dL_comes_312 rfl (lv_at hl 1 rfl) ?_
              refine xg_calli (va_runV (As := [.int (p0)]) (rest := []) ⟨hx, hb, hml, hown, hts⟩ (c_X5_drops l hl9 hA p0 hw) (cwV 1 hts gL_comes_X5_drops rfl rfl rfl (by decide +kernel) ⟨Nat.le_of_ble_eq_true rfl, Nat.le_of_ble_eq_true rfl⟩) (xg_preV hB0 hP hK hN hS xs0 rfl) rfl rfl hl.1 rfl (lv_room (Nat.le_of_ble_eq_true rfl)) dL_comes_313 ⟨Nat.le_of_ble_eq_true rfl, Nat.le_of_ble_eq_true rfl⟩) hS (fun r55 h56 H locs hw hP hS => ?_)
              refine lv_if_ne (tgt := 323) hx hb dL_comes_316 (by decide) (fun c57 => ?_) (fun c57 => ?_)
              · have hw := hw.2 c57
                refine lv_iconst (v := 0) hx hb dL_comes_323 (by decide) ?_
                exact xg_irets hx hb hr rfl hlocks hB0 hP hK hN hS dL_comes_324 (by decide) (by decide) hw
              · have hw := hw.1 c57
                refine lv_iconst (v := 1) hx hb dL_comes_319 (by decide) ?_
                refine lv_goto (tgt := 324) hx hb dL_comes_320 (by decide) ?_
                exact xg_irets hx hb hr rfl hlocks hB0 hP hK hN hS dL_comes_324 (by decide) (by decide) hw
      · have hw := hw.2 c49
        refine lv_iload hx hb dL_comes_236 (lv_at hl 4 rfl) ?_
        refine lv_if_eq (tgt := 280) hx hb dL_comes_238 (by decide) (fun c58 => ?_) (fun c58 => ?_)
        · have hw := hw.1 c58
          exact j_280 _ (ih) (v8) (v11) (v14) _ _ _ _ hw hP hS (lv_sub hl [0, 1, 2, 3, 5] rfl)
        · have hw := hw.2 c58
          refine lv_aload_n hx hb dL_comes_241 rfl (lv_at hl 0 rfl) ?_
          refine lv_iload hx hb dL_comes_242 (lv_at hl 3 rfl) ?_
          refine xg_calli (va_runV (As := [.int (v11)]) (rest := []) ⟨hx, hb, hml, hown, hts⟩ (c_X5_targetsOf l hl9 hA v11 hw) (cwV 1 hts gL_comes_X5_targetsOf rfl rfl rfl (by decide +kernel) ⟨Nat.le_of_ble_eq_true rfl, Nat.le_of_ble_eq_true rfl⟩) (xg_preV hB0 hP hK hN hS xs0 rfl) rfl rfl hl.1 rfl (lv_room (Nat.le_of_ble_eq_true rfl)) dL_comes_244 ⟨Nat.le_of_ble_eq_true rfl, Nat.le_of_ble_eq_true rfl⟩) hS (fun r59 h60 H locs hw hP hS => ?_)
          refine lv_iload hx hb dL_comes_247 (lv_at hl 5 rfl) ?_
          refine lv_ishr hx hb dL_comes_249 ?_
          refine lv_iconst (v := 1) hx hb dL_comes_250 (by decide) ?_
          refine lv_iand hx hb dL_comes_251 ?_
          refine lv_if_eq (tgt := 276) hx hb dL_comes_252 (by decide) (fun c61 => ?_) (fun c61 => ?_)
          · have hw := hw.1 c61
            exact j_276 _ (ih) (v8) (v11) (v14) _ _ _ _ hw hP hS (lv_sub hl [0, 1, 2, 3, 5] rfl)
          · have hw := hw.2 c61
            refine lv_aload_n hx hb dL_comes_255 rfl (lv_at hl 0 rfl) ?_
            refine lv_iload hx hb dL_comes_256 (lv_at hl 5 rfl) ?_
            refine lv_iconst (v := (-1)) hx hb dL_comes_258 (by decide) ?_
            refine lv_aload_n hx hb dL_comes_259 rfl (lv_at hl 0 rfl) ?_
            refine lv_iload hx hb dL_comes_260 (lv_at hl 5 rfl) ?_
            refine lv_iconst (v := (-1)) hx hb dL_comes_262 (by decide) ?_
            refine xg_calli (va_runV (As := [.int (v14), .int ((-1))]) (rest := [.int ((-1)), .int (v14), .ref (ad (0))]) ⟨hx, hb, hml, hown, hts⟩ (c_X5_lines l hl9 hA v14 ((-1) : Int32) hw) (cwV 2 hts gL_comes_X5_lines rfl rfl rfl (by decide +kernel) ⟨Nat.le_of_ble_eq_true rfl, Nat.le_of_ble_eq_true rfl⟩) (xg_preV hB0 hP hK hN hS xs0 rfl) rfl rfl hl.1 rfl (lv_room (Nat.le_of_ble_eq_true rfl)) dL_comes_263 ⟨Nat.le_of_ble_eq_true rfl, Nat.le_of_ble_eq_true rfl⟩) hS (fun r62 h63 H locs hw hP hS => ?_)
            refine lv_iconst (v := 1) hx hb dL_comes_266 (by decide) ?_
            refine lv_isub hx hb dL_comes_267 ?_
            refine xg_calli (va_runV (As := [.int (v14), .int ((-1)), .int ((r62 - 1))]) (rest := []) ⟨hx, hb, hml, hown, hts⟩ (c_X5_line l hl9 hA v14 ((-1) : Int32) (r62 - 1) hw) (cwV 3 hts gL_comes_X5_line rfl rfl rfl (by decide +kernel) ⟨Nat.le_of_ble_eq_true rfl, Nat.le_of_ble_eq_true rfl⟩) (xg_preV hB0 hP hK hN hS xs0 rfl) rfl rfl hl.1 rfl (lv_room (Nat.le_of_ble_eq_true rfl)) dL_comes_268 ⟨Nat.le_of_ble_eq_true rfl, Nat.le_of_ble_eq_true rfl⟩) hS (fun r64 h65 H locs hw hP hS => ?_)
            refine lv_iload hx hb dL_comes_271 (lv_at hl 3 rfl) ?_
            refine lv_icmp_ne (tgt := 280) hx hb dL_comes_273 (by decide) (fun c66 => ?_) (fun c66 => ?_)
            · have hw := hw.2 c66
              exact j_280 _ (ih) (v8) (v11) (v14) _ _ _ _ hw hP hS (lv_sub hl [0, 1, 2, 3, 5] rfl)
            · have hw := hw.1 c66
              exact j_276 _ (ih) (v8) (v11) (v14) _ _ _ _ hw hP hS (lv_sub hl [0, 1, 2, 3, 5] rfl)
  have j_183 : ∀ (v8 : Int32) (v10 : Int32) (v11 : Int32) (v12 : Int32) (s0 : Int32) (h : xH) (H : Heap) (locs : List Loc) (ls : Array Slot), w_L_comes_183 p0 p1 p2 p3 p4 K v8 v10 v11 v12 s0 h → XP ad D T h H → va_S (fun q => B0 ≤ q) s.heap H locs → lv_has ls 15 [(0, .ref (ad (0))), (3, .int (p0)), (8, .int (v8)), (10, .int (v10)), (11, .int (v11)), (12, .int (v12))] → W p l e (headSpec wsL_comes ({ frames := 5, cells := 0, slots := 0, locals := 122 } : Room)).room s m ([.ref (ad (0)), .ref (ad (101)), .ref (ad (102)), .int (p0), .int (p1), .int (p2), .int (p3), .int (p4)] : List Value).toArray below meth c H locs 0 0 (MQ below (XQ B0 ad D T xei K) ([.ref (ad (0)), .ref (ad (101)), .ref (ad (102)), .int (p0), .int (p1), .int (p2), .int (p3), .int (p4)] : List Value).toArray s 0 0 (fun q => B0 ≤ q)) (F0 m 183 ls [.int (s0)]) := by
    intro v8 v10 v11 v12 s0 h H locs ls hw hP hS hl 
    unfold w_L_comes_183 at hw
    refine lv_istore (lv' := [(13, .int (s0)), (0, .ref (ad (0))), (3, .int (p0)), (8, .int (v8)), (10, .int (v10)), (11, .int (v11)), (12, .int (v12))]) hx hb dL_comes_183 hl (by decide) rfl (fun ls hl => ?_)
    refine lv_iload hx hb dL_comes_185 (lv_at hl 6 rfl) ?_
    refine lv_iconst (v := 1) hx hb dL_comes_187 (by decide) ?_
    refine lv_icmp_ne (tgt := 227) hx hb dL_comes_188 (by decide) (fun c40 => ?_) (fun c40 => ?_)
    · have hw := hw.2 c40
      refine lv_iconst (v := 0) hx hb dL_comes_227 (by decide) ?_
      refine lv_istore (lv' := [(14, .int (0)), (13, .int (s0)), (0, .ref (ad (0))), (3, .int (p0)), (8, .int (v8)), (10, .int (v10)), (11, .int (v11)), (12, .int (v12))]) hx hb dL_comes_228 hl (by decide) rfl (fun ls hl => ?_)
      obtain ⟨n9, hw⟩ := hw
      exact j_230  n9 (v8) (v11) (s0) (0) _ _ _ _ hw hP hS (lv_sub hl [2, 3, 4, 6, 1, 0] rfl)
    · have hw := hw.1 c40
      refine lv_iload hx hb dL_comes_191 (lv_at hl 0 rfl) ?_
      refine lv_if_eq (tgt := 225) hx hb dL_comes_193 (by decide) (fun c41 => ?_) (fun c41 => ?_)
      · have hw := hw.1 c41
        refine lv_iconst (v := 0) hx hb dL_comes_225 (by decide) ?_
        exact xg_irets hx hb hr rfl hlocks hB0 hP hK hN hS dL_comes_226 (by decide) (by decide) hw
      · have hw := hw.2 c41
        refine lv_iload hx hb dL_comes_196 (lv_at hl 3 rfl) ?_
        refine lv_if_ne (tgt := 225) hx hb dL_comes_198 (by decide) (fun c42 => ?_) (fun c42 => ?_)
        · have hw := hw.2 c42
          refine lv_iconst (v := 0) hx hb dL_comes_225 (by decide) ?_
          exact xg_irets hx hb hr rfl hlocks hB0 hP hK hN hS dL_comes_226 (by decide) (by decide) hw
        · have hw := hw.1 c42
          refine lv_aload_n hx hb dL_comes_201 rfl (lv_at hl 1 rfl) ?_
          refine lv_iload_n hx hb dL_comes_202 rfl (lv_at hl 2 rfl) ?_
          refine xg_calli (va_runV (As := [.int (p0)]) (rest := []) ⟨hx, hb, hml, hown, hts⟩ (c_X5_tokens l hl9 hA p0 hw) (cwV 1 hts gL_comes_X5_tokens rfl rfl rfl (by decide +kernel) ⟨Nat.le_of_ble_eq_true rfl, Nat.le_of_ble_eq_true rfl⟩) (xg_preV hB0 hP hK hN hS xs0 rfl) rfl rfl hl.1 rfl (lv_room (Nat.le_of_ble_eq_true rfl)) dL_comes_203 ⟨Nat.le_of_ble_eq_true rfl, Nat.le_of_ble_eq_true rfl⟩) hS (fun r43 h44 H locs hw hP hS => ?_)
          refine lv_if_ne (tgt := 225) hx hb dL_comes_206 (by decide) (fun c45 => ?_) (fun c45 => ?_)
          · have hw := hw.2 c45
            refine lv_iconst (v := 0) hx hb dL_comes_225 (by decide) ?_
            exact xg_irets hx hb hr rfl hlocks hB0 hP hK hN hS dL_comes_226 (by decide) (by decide) hw
          · have hw := hw.1 c45
            refine lv_aload_n hx hb dL_comes_209 rfl (lv_at hl 1 rfl) ?_
            refine lv_iload_n hx hb dL_comes_210 rfl (lv_at hl 2 rfl) ?_
            refine xg_calli (va_runV (As := [.int (p0)]) (rest := []) ⟨hx, hb, hml, hown, hts⟩ (c_X5_drops l hl9 hA p0 hw) (cwV 1 hts gL_comes_X5_drops rfl rfl rfl (by decide +kernel) ⟨Nat.le_of_ble_eq_true rfl, Nat.le_of_ble_eq_true rfl⟩) (xg_preV hB0 hP hK hN hS xs0 rfl) rfl rfl hl.1 rfl (lv_room (Nat.le_of_ble_eq_true rfl)) dL_comes_211 ⟨Nat.le_of_ble_eq_true rfl, Nat.le_of_ble_eq_true rfl⟩) hS (fun r46 h47 H locs hw hP hS => ?_)
            refine lv_iload hx hb dL_comes_214 (lv_at hl 4 rfl) ?_
            refine lv_iconst (v := 1) hx hb dL_comes_216 (by decide) ?_
            refine lv_iadd hx hb dL_comes_217 ?_
            refine lv_icmp_ne (tgt := 225) hx hb dL_comes_218 (by decide) (fun c48 => ?_) (fun c48 => ?_)
            · have hw := hw.2 c48
              refine lv_iconst (v := 0) hx hb dL_comes_225 (by decide) ?_
              exact xg_irets hx hb hr rfl hlocks hB0 hP hK hN hS dL_comes_226 (by decide) (by decide) hw
            · have hw := hw.1 c48
              refine lv_iconst (v := 1) hx hb dL_comes_221 (by decide) ?_
              refine lv_goto (tgt := 226) hx hb dL_comes_222 (by decide) ?_
              exact xg_irets hx hb hr rfl hlocks hB0 hP hK hN hS dL_comes_226 (by decide) (by decide) hw
  have j_182 : ∀ (v8 : Int32) (v10 : Int32) (v11 : Int32) (v12 : Int32) (h : xH) (H : Heap) (locs : List Loc) (ls : Array Slot), w_L_comes_182 p0 p1 p2 p3 p4 K v8 v10 v11 v12 h → XP ad D T h H → va_S (fun q => B0 ≤ q) s.heap H locs → lv_has ls 15 [(0, .ref (ad (0))), (3, .int (p0)), (8, .int (v8)), (10, .int (v10)), (11, .int (v11)), (12, .int (v12))] → W p l e (headSpec wsL_comes ({ frames := 5, cells := 0, slots := 0, locals := 122 } : Room)).room s m ([.ref (ad (0)), .ref (ad (101)), .ref (ad (102)), .int (p0), .int (p1), .int (p2), .int (p3), .int (p4)] : List Value).toArray below meth c H locs 0 0 (MQ below (XQ B0 ad D T xei K) ([.ref (ad (0)), .ref (ad (101)), .ref (ad (102)), .int (p0), .int (p1), .int (p2), .int (p3), .int (p4)] : List Value).toArray s 0 0 (fun q => B0 ≤ q)) (F0 m 182 ls []) := by
    intro v8 v10 v11 v12 h H locs ls hw hP hS hl 
    unfold w_L_comes_182 at hw
    refine lv_iconst (v := 0) hx hb dL_comes_182 (by decide) ?_
    exact j_183  (v8) (v10) (v11) (v12) (0) _ _ _ _ hw hP hS (lv_sub hl [0, 1, 2, 3, 4, 5] rfl)
  have j_109 : ∀ (v8 : Int32) (v9 : Int32) (v10 : Int32) (v11 : Int32) (v12 : Int32) (s0 : Int32) (h : xH) (H : Heap) (locs : List Loc) (ls : Array Slot), w_L_comes_109 p0 p1 p2 p3 p4 K v8 v9 v10 v11 v12 s0 h → XP ad D T h H → va_S (fun q => B0 ≤ q) s.heap H locs → lv_has ls 15 [(0, .ref (ad (0))), (2, .ref (ad (102))), (3, .int (p0)), (8, .int (v8)), (9, .int (v9)), (10, .int (v10)), (11, .int (v11)), (12, .int (v12))] → W p l e (headSpec wsL_comes ({ frames := 5, cells := 0, slots := 0, locals := 122 } : Room)).room s m ([.ref (ad (0)), .ref (ad (101)), .ref (ad (102)), .int (p0), .int (p1), .int (p2), .int (p3), .int (p4)] : List Value).toArray below meth c H locs 0 0 (MQ below (XQ B0 ad D T xei K) ([.ref (ad (0)), .ref (ad (101)), .ref (ad (102)), .int (p0), .int (p1), .int (p2), .int (p3), .int (p4)] : List Value).toArray s 0 0 (fun q => B0 ≤ q)) (F0 m 109 ls [.int (s0)]) := by
    intro v8 v9 v10 v11 v12 s0 h H locs ls hw hP hS hl 
    unfold w_L_comes_109 at hw
    refine lv_istore (lv' := [(13, .int (s0)), (0, .ref (ad (0))), (2, .ref (ad (102))), (3, .int (p0)), (8, .int (v8)), (9, .int (v9)), (10, .int (v10)), (11, .int (v11)), (12, .int (v12))]) hx hb dL_comes_109 hl (by decide) rfl (fun ls hl => ?_)
    refine lv_iload hx hb dL_comes_111 (lv_at hl 8 rfl) ?_
    refine lv_if_ne (tgt := 165) hx hb dL_comes_113 (by decide) (fun c23 => ?_) (fun c23 => ?_)
    · have hw := hw.2 c23
      refine lv_iload hx hb dL_comes_165 (lv_at hl 0 rfl) ?_
      refine lv_if_eq (tgt := 182) hx hb dL_comes_167 (by decide) (fun c24 => ?_) (fun c24 => ?_)
      · have hw := hw.1 c24
        exact j_182  (v8) (v10) (v11) (v12) _ _ _ _ hw hP hS (lv_sub hl [1, 3, 4, 6, 7, 8] rfl)
      · have hw := hw.2 c24
        refine lv_aload_n hx hb dL_comes_170 rfl (lv_at hl 1 rfl) ?_
        refine lv_iload_n hx hb dL_comes_171 rfl (lv_at hl 3 rfl) ?_
        refine xg_calli (va_runV (As := [.int (p0)]) (rest := []) ⟨hx, hb, hml, hown, hts⟩ (c_X5_repeats l hl9 hA p0 hw) (cwV 1 hts gL_comes_X5_repeats rfl rfl rfl (by decide +kernel) ⟨Nat.le_of_ble_eq_true rfl, Nat.le_of_ble_eq_true rfl⟩) (xg_preV hB0 hP hK hN hS xs0 rfl) rfl rfl hl.1 rfl (lv_room (Nat.le_of_ble_eq_true rfl)) dL_comes_172 ⟨Nat.le_of_ble_eq_true rfl, Nat.le_of_ble_eq_true rfl⟩) hS (fun r25 h26 H locs hw hP hS => ?_)
        refine lv_if_ne (tgt := 182) hx hb dL_comes_175 (by decide) (fun c27 => ?_) (fun c27 => ?_)
        · have hw := hw.2 c27
          exact j_182  (v8) (v10) (v11) (v12) _ _ _ _ hw hP hS (lv_sub hl [1, 3, 4, 6, 7, 8] rfl)
        · have hw := hw.1 c27
          refine lv_iconst (v := 1) hx hb dL_comes_178 (by decide) ?_
          refine lv_goto (tgt := 183) hx hb dL_comes_179 (by decide) ?_
          exact j_183  (v8) (v10) (v11) (v12) (1) _ _ _ _ hw hP hS (lv_sub hl [1, 3, 4, 6, 7, 8] rfl)
    · have hw := hw.1 c23
      refine lv_iload hx hb dL_comes_116 (lv_at hl 0 rfl) ?_
      refine lv_if_eq (tgt := 163) hx hb dL_comes_118 (by decide) (fun c28 => ?_) (fun c28 => ?_)
      · have hw := hw.1 c28
        refine lv_iconst (v := 0) hx hb dL_comes_163 (by decide) ?_
        exact xg_irets hx hb hr rfl hlocks hB0 hP hK hN hS dL_comes_164 (by decide) (by decide) hw
      · have hw := hw.2 c28
        refine lv_aload_n hx hb dL_comes_121 rfl (lv_at hl 2 rfl) ?_
        refine lv_iconst (v := 4) hx hb dL_comes_122 (by decide) ?_
        obtain ⟨hi29, hw⟩ := hw
        refine xg_iald hx hb hK hP xs102 hi29 dL_comes_123 ?_
        refine lv_if_le (tgt := 163) hx hb dL_comes_124 (by decide) (fun c30 => ?_) (fun c30 => ?_)
        · have hw := hw.1 c30
          refine lv_iconst (v := 0) hx hb dL_comes_163 (by decide) ?_
          exact xg_irets hx hb hr rfl hlocks hB0 hP hK hN hS dL_comes_164 (by decide) (by decide) hw
        · have hw := hw.2 c30
          refine lv_aload_n hx hb dL_comes_127 rfl (lv_at hl 1 rfl) ?_
          refine lv_iload_n hx hb dL_comes_128 rfl (lv_at hl 3 rfl) ?_
          refine xg_calli (va_runV (As := [.int (p0)]) (rest := []) ⟨hx, hb, hml, hown, hts⟩ (c_X5_repeats l hl9 hA p0 hw) (cwV 1 hts gL_comes_X5_repeats rfl rfl rfl (by decide +kernel) ⟨Nat.le_of_ble_eq_true rfl, Nat.le_of_ble_eq_true rfl⟩) (xg_preV hB0 hP hK hN hS xs0 rfl) rfl rfl hl.1 rfl (lv_room (Nat.le_of_ble_eq_true rfl)) dL_comes_129 ⟨Nat.le_of_ble_eq_true rfl, Nat.le_of_ble_eq_true rfl⟩) hS (fun r31 h32 H locs hw hP hS => ?_)
          refine lv_iload hx hb dL_comes_132 (lv_at hl 5 rfl) ?_
          refine lv_iconst (v := 1) hx hb dL_comes_134 (by decide) ?_
          refine lv_iadd hx hb dL_comes_135 ?_
          refine lv_icmp_ne (tgt := 163) hx hb dL_comes_136 (by decide) (fun c33 => ?_) (fun c33 => ?_)
          · have hw := hw.2 c33
            refine lv_iconst (v := 0) hx hb dL_comes_163 (by decide) ?_
            exact xg_irets hx hb hr rfl hlocks hB0 hP hK hN hS dL_comes_164 (by decide) (by decide) hw
          · have hw := hw.1 c33
            refine lv_aload_n hx hb dL_comes_139 rfl (lv_at hl 1 rfl) ?_
            refine lv_iload_n hx hb dL_comes_140 rfl (lv_at hl 3 rfl) ?_
            refine xg_calli (va_runV (As := [.int (p0)]) (rest := []) ⟨hx, hb, hml, hown, hts⟩ (c_X5_tokens l hl9 hA p0 hw) (cwV 1 hts gL_comes_X5_tokens rfl rfl rfl (by decide +kernel) ⟨Nat.le_of_ble_eq_true rfl, Nat.le_of_ble_eq_true rfl⟩) (xg_preV hB0 hP hK hN hS xs0 rfl) rfl rfl hl.1 rfl (lv_room (Nat.le_of_ble_eq_true rfl)) dL_comes_141 ⟨Nat.le_of_ble_eq_true rfl, Nat.le_of_ble_eq_true rfl⟩) hS (fun r34 h35 H locs hw hP hS => ?_)
            refine lv_iload hx hb dL_comes_144 (lv_at hl 4 rfl) ?_
            refine lv_icmp_ne (tgt := 163) hx hb dL_comes_146 (by decide) (fun c36 => ?_) (fun c36 => ?_)
            · have hw := hw.2 c36
              refine lv_iconst (v := 0) hx hb dL_comes_163 (by decide) ?_
              exact xg_irets hx hb hr rfl hlocks hB0 hP hK hN hS dL_comes_164 (by decide) (by decide) hw
            · have hw := hw.1 c36
              refine lv_aload_n hx hb dL_comes_149 rfl (lv_at hl 1 rfl) ?_
              refine lv_iload_n hx hb dL_comes_150 rfl (lv_at hl 3 rfl) ?_
              refine xg_calli (va_runV (As := [.int (p0)]) (rest := []) ⟨hx, hb, hml, hown, hts⟩ (c_X5_drops l hl9 hA p0 hw) (cwV 1 hts gL_comes_X5_drops rfl rfl rfl (by decide +kernel) ⟨Nat.le_of_ble_eq_true rfl, Nat.le_of_ble_eq_true rfl⟩) (xg_preV hB0 hP hK hN hS xs0 rfl) rfl rfl hl.1 rfl (lv_room (Nat.le_of_ble_eq_true rfl)) dL_comes_151 ⟨Nat.le_of_ble_eq_true rfl, Nat.le_of_ble_eq_true rfl⟩) hS (fun r37 h38 H locs hw hP hS => ?_)
              refine lv_iload hx hb dL_comes_154 (lv_at hl 6 rfl) ?_
              refine lv_icmp_ne (tgt := 163) hx hb dL_comes_156 (by decide) (fun c39 => ?_) (fun c39 => ?_)
              · have hw := hw.2 c39
                refine lv_iconst (v := 0) hx hb dL_comes_163 (by decide) ?_
                exact xg_irets hx hb hr rfl hlocks hB0 hP hK hN hS dL_comes_164 (by decide) (by decide) hw
              · have hw := hw.1 c39
                refine lv_iconst (v := 1) hx hb dL_comes_159 (by decide) ?_
                refine lv_goto (tgt := 164) hx hb dL_comes_160 (by decide) ?_
                exact xg_irets hx hb hr rfl hlocks hB0 hP hK hN hS dL_comes_164 (by decide) (by decide) hw
  have j_108 : ∀ (v8 : Int32) (v9 : Int32) (v10 : Int32) (v11 : Int32) (v12 : Int32) (h : xH) (H : Heap) (locs : List Loc) (ls : Array Slot), w_L_comes_108 p0 p1 p2 p3 p4 K v8 v9 v10 v11 v12 h → XP ad D T h H → va_S (fun q => B0 ≤ q) s.heap H locs → lv_has ls 15 [(0, .ref (ad (0))), (2, .ref (ad (102))), (3, .int (p0)), (8, .int (v8)), (9, .int (v9)), (10, .int (v10)), (11, .int (v11)), (12, .int (v12))] → W p l e (headSpec wsL_comes ({ frames := 5, cells := 0, slots := 0, locals := 122 } : Room)).room s m ([.ref (ad (0)), .ref (ad (101)), .ref (ad (102)), .int (p0), .int (p1), .int (p2), .int (p3), .int (p4)] : List Value).toArray below meth c H locs 0 0 (MQ below (XQ B0 ad D T xei K) ([.ref (ad (0)), .ref (ad (101)), .ref (ad (102)), .int (p0), .int (p1), .int (p2), .int (p3), .int (p4)] : List Value).toArray s 0 0 (fun q => B0 ≤ q)) (F0 m 108 ls []) := by
    intro v8 v9 v10 v11 v12 h H locs ls hw hP hS hl 
    unfold w_L_comes_108 at hw
    refine lv_iconst (v := 0) hx hb dL_comes_108 (by decide) ?_
    exact j_109  (v8) (v9) (v10) (v11) (v12) (0) _ _ _ _ hw hP hS (lv_sub hl [0, 1, 2, 3, 4, 5, 6, 7] rfl)
  have j_101 : ∀ (v8 : Int32) (v9 : Int32) (v10 : Int32) (v11 : Int32) (v12 : Int32) (s0 : Int32) (s1 : Int32) (h : xH) (H : Heap) (locs : List Loc) (ls : Array Slot), w_L_comes_101 p0 p1 p2 p3 p4 K v8 v9 v10 v11 v12 s0 s1 h → XP ad D T h H → va_S (fun q => B0 ≤ q) s.heap H locs → lv_has ls 15 [(0, .ref (ad (0))), (2, .ref (ad (102))), (3, .int (p0)), (8, .int (v8)), (9, .int (v9)), (10, .int (v10)), (11, .int (v11)), (12, .int (v12))] → W p l e (headSpec wsL_comes ({ frames := 5, cells := 0, slots := 0, locals := 122 } : Room)).room s m ([.ref (ad (0)), .ref (ad (101)), .ref (ad (102)), .int (p0), .int (p1), .int (p2), .int (p3), .int (p4)] : List Value).toArray below meth c H locs 0 0 (MQ below (XQ B0 ad D T xei K) ([.ref (ad (0)), .ref (ad (101)), .ref (ad (102)), .int (p0), .int (p1), .int (p2), .int (p3), .int (p4)] : List Value).toArray s 0 0 (fun q => B0 ≤ q)) (F0 m 101 ls [.int (s1), .int (s0)]) := by
    intro v8 v9 v10 v11 v12 s0 s1 h H locs ls hw hP hS hl 
    unfold w_L_comes_101 at hw
    refine lv_icmp_ne (tgt := 108) hx hb dL_comes_101 (by decide) (fun c71 => ?_) (fun c71 => ?_)
    · have hw := hw.2 c71
      exact j_108  (v8) (v9) (v10) (v11) (v12) _ _ _ _ hw hP hS (lv_sub hl [0, 1, 2, 3, 4, 5, 6, 7] rfl)
    · have hw := hw.1 c71
      refine lv_iconst (v := 1) hx hb dL_comes_104 (by decide) ?_
      refine lv_goto (tgt := 109) hx hb dL_comes_105 (by decide) ?_
      exact j_109  (v8) (v9) (v10) (v11) (v12) (1) _ _ _ _ hw hP hS (lv_sub hl [0, 1, 2, 3, 4, 5, 6, 7] rfl)
  have j_87 : ∀ (v8 : Int32) (v9 : Int32) (v10 : Int32) (v11 : Int32) (v12 : Int32) (s0 : Int32) (h : xH) (H : Heap) (locs : List Loc) (ls : Array Slot), w_L_comes_87 p0 p1 p2 p3 p4 K v8 v9 v10 v11 v12 s0 h → XP ad D T h H → va_S (fun q => B0 ≤ q) s.heap H locs → lv_has ls 15 [(0, .ref (ad (0))), (2, .ref (ad (102))), (3, .int (p0)), (8, .int (v8)), (9, .int (v9)), (10, .int (v10)), (11, .int (v11)), (12, .int (v12))] → W p l e (headSpec wsL_comes ({ frames := 5, cells := 0, slots := 0, locals := 122 } : Room)).room s m ([.ref (ad (0)), .ref (ad (101)), .ref (ad (102)), .int (p0), .int (p1), .int (p2), .int (p3), .int (p4)] : List Value).toArray below meth c H locs 0 0 (MQ below (XQ B0 ad D T xei K) ([.ref (ad (0)), .ref (ad (101)), .ref (ad (102)), .int (p0), .int (p1), .int (p2), .int (p3), .int (p4)] : List Value).toArray s 0 0 (fun q => B0 ≤ q)) (F0 m 87 ls [.int (s0)]) := by
    intro v8 v9 v10 v11 v12 s0 h H locs ls hw hP hS hl 
    unfold w_L_comes_87 at hw
    refine lv_aload_n hx hb dL_comes_87 rfl (lv_at hl 0 rfl) ?_
    refine lv_iload hx hb dL_comes_88 (lv_at hl 6 rfl) ?_
    refine xg_calli (va_runV (As := [.int (v11)]) (rest := [.int (s0)]) ⟨hx, hb, hml, hown, hts⟩ (c_X5_targetsOf l hl9 hA v11 hw) (cwV 1 hts gL_comes_X5_targetsOf rfl rfl rfl (by decide +kernel) ⟨Nat.le_of_ble_eq_true rfl, Nat.le_of_ble_eq_true rfl⟩) (xg_preV hB0 hP hK hN hS xs0 rfl) rfl rfl hl.1 rfl (lv_room (Nat.le_of_ble_eq_true rfl)) dL_comes_90 ⟨Nat.le_of_ble_eq_true rfl, Nat.le_of_ble_eq_true rfl⟩) hS (fun r68 h69 H locs hw hP hS => ?_)
    refine lv_if_eq (tgt := 100) hx hb dL_comes_93 (by decide) (fun c70 => ?_) (fun c70 => ?_)
    · have hw := hw.1 c70
      refine lv_iconst (v := 0) hx hb dL_comes_100 (by decide) ?_
      exact j_101  (v8) (v9) (v10) (v11) (v12) (s0) (0) _ _ _ _ hw hP hS (lv_sub hl [0, 1, 2, 3, 4, 5, 6, 7] rfl)
    · have hw := hw.2 c70
      refine lv_iconst (v := 1) hx hb dL_comes_96 (by decide) ?_
      refine lv_goto (tgt := 101) hx hb dL_comes_97 (by decide) ?_
      exact j_101  (v8) (v9) (v10) (v11) (v12) (s0) (1) _ _ _ _ hw hP hS (lv_sub hl [0, 1, 2, 3, 4, 5, 6, 7] rfl)
  unfold w_L_comes at hw
  refine lv_aload_n hx hb dL_comes_0 rfl (lv_at hl 0 rfl) ?_
  refine lv_iload_n hx hb dL_comes_1 rfl (lv_at hl 3 rfl) ?_
  refine xg_calli (va_runV (As := [.int (p0)]) (rest := []) ⟨hx, hb, hml, hown, hts⟩ (c_X5_tokens l hl9 hA p0 hw) (cwV 1 hts gL_comes_X5_tokens rfl rfl rfl (by decide +kernel) ⟨Nat.le_of_ble_eq_true rfl, Nat.le_of_ble_eq_true rfl⟩) (xg_preV hB0 hP hK hN hS xs0 rfl) rfl rfl hl.1 rfl (lv_room (Nat.le_of_ble_eq_true rfl)) dL_comes_2 ⟨Nat.le_of_ble_eq_true rfl, Nat.le_of_ble_eq_true rfl⟩) hS (fun r1 h2 H locs hw hP hS => ?_)
  refine lv_istore (lv' := [(8, .int (r1)), (0, .ref (ad (0))), (1, .ref (ad (101))), (2, .ref (ad (102))), (3, .int (p0)), (4, .int (p1)), (5, .int (p2)), (6, .int (p3)), (7, .int (p4))]) hx hb dL_comes_5 hl (by decide) rfl (fun ls hl => ?_)
  refine lv_aload_n hx hb dL_comes_7 rfl (lv_at hl 1 rfl) ?_
  refine lv_iload_n hx hb dL_comes_8 rfl (lv_at hl 4 rfl) ?_
  refine xg_calli (va_runV (As := [.int (p0)]) (rest := []) ⟨hx, hb, hml, hown, hts⟩ (c_X5_repeats l hl9 hA p0 hw) (cwV 1 hts gL_comes_X5_repeats rfl rfl rfl (by decide +kernel) ⟨Nat.le_of_ble_eq_true rfl, Nat.le_of_ble_eq_true rfl⟩) (xg_preV hB0 hP hK hN hS xs0 rfl) rfl rfl hl.1 rfl (lv_room (Nat.le_of_ble_eq_true rfl)) dL_comes_9 ⟨Nat.le_of_ble_eq_true rfl, Nat.le_of_ble_eq_true rfl⟩) hS (fun r3 h4 H locs hw hP hS => ?_)
  refine lv_istore (lv' := [(9, .int (r3)), (8, .int (r1)), (0, .ref (ad (0))), (1, .ref (ad (101))), (2, .ref (ad (102))), (3, .int (p0)), (4, .int (p1)), (5, .int (p2)), (6, .int (p3)), (7, .int (p4))]) hx hb dL_comes_12 hl (by decide) rfl (fun ls hl => ?_)
  refine lv_aload_n hx hb dL_comes_14 rfl (lv_at hl 2 rfl) ?_
  refine lv_iload_n hx hb dL_comes_15 rfl (lv_at hl 5 rfl) ?_
  refine xg_calli (va_runV (As := [.int (p0)]) (rest := []) ⟨hx, hb, hml, hown, hts⟩ (c_X5_drops l hl9 hA p0 hw) (cwV 1 hts gL_comes_X5_drops rfl rfl rfl (by decide +kernel) ⟨Nat.le_of_ble_eq_true rfl, Nat.le_of_ble_eq_true rfl⟩) (xg_preV hB0 hP hK hN hS xs0 rfl) rfl rfl hl.1 rfl (lv_room (Nat.le_of_ble_eq_true rfl)) dL_comes_16 ⟨Nat.le_of_ble_eq_true rfl, Nat.le_of_ble_eq_true rfl⟩) hS (fun r5 h6 H locs hw hP hS => ?_)
  refine lv_istore (lv' := [(10, .int (r5)), (9, .int (r3)), (8, .int (r1)), (0, .ref (ad (0))), (1, .ref (ad (101))), (2, .ref (ad (102))), (3, .int (p0)), (4, .int (p1)), (5, .int (p2)), (6, .int (p3)), (7, .int (p4))]) hx hb dL_comes_19 hl (by decide) rfl (fun ls hl => ?_)
  refine lv_aload_n hx hb dL_comes_21 rfl (lv_at hl 5 rfl) ?_
  refine lv_iconst (v := 0) hx hb dL_comes_22 (by decide) ?_
  obtain ⟨hi7, hw⟩ := hw
  refine xg_iald hx hb hK hP xs102 hi7 dL_comes_23 ?_
  refine lv_topi (fun x8 ex8 => ?_)
  have hw := hw x8 ex8
  refine lv_istore (lv' := [(11, .int (x8)), (10, .int (r5)), (9, .int (r3)), (8, .int (r1)), (0, .ref (ad (0))), (1, .ref (ad (101))), (2, .ref (ad (102))), (3, .int (p0)), (4, .int (p1)), (5, .int (p2)), (6, .int (p3)), (7, .int (p4))]) hx hb dL_comes_24 hl (by decide) rfl (fun ls hl => ?_)
  refine lv_aload_n hx hb dL_comes_26 rfl (lv_at hl 5 rfl) ?_
  refine lv_iload hx hb dL_comes_27 (lv_at hl 0 rfl) ?_
  refine lv_iload hx hb dL_comes_29 (lv_at hl 11 rfl) ?_
  obtain ⟨hi9, hw⟩ := hw
  refine xg_iast hx hb hK hP hA hS xs101 hi9 dL_comes_31 (fun H locs h10 eh10 hP hS => ?_)
  have hw := hw h10 eh10
  refine lv_aload_n hx hb dL_comes_32 rfl (lv_at hl 6 rfl) ?_
  refine lv_iconst (v := 0) hx hb dL_comes_33 (by decide) ?_
  refine lv_dup2_11 hx hb dL_comes_34 rfl rfl ?_
  obtain ⟨hi11, hw⟩ := hw
  refine xg_iald hx hb hK hP xs102 hi11 dL_comes_35 ?_
  refine lv_iconst (v := 1) hx hb dL_comes_36 (by decide) ?_
  refine lv_iadd hx hb dL_comes_37 ?_
  obtain ⟨hi12, hw⟩ := hw
  refine xg_iast hx hb hK hP hA hS xs102 hi12 dL_comes_38 (fun H locs h13 eh13 hP hS => ?_)
  have hw := hw h13 eh13
  refine lv_aload_n hx hb dL_comes_39 rfl (lv_at hl 4 rfl) ?_
  refine lv_iload_n hx hb dL_comes_40 rfl (lv_at hl 7 rfl) ?_
  refine lv_iload hx hb dL_comes_41 (lv_at hl 8 rfl) ?_
  refine lv_iload hx hb dL_comes_43 (lv_at hl 9 rfl) ?_
  refine lv_iload hx hb dL_comes_45 (lv_at hl 10 rfl) ?_
  refine lv_iload hx hb dL_comes_47 (lv_at hl 11 rfl) ?_
  refine xg_calli (va_runV (As := [.int (p0), .int (p1), .int (p2), .int (p3), .int (p4)]) (rest := []) ⟨hx, hb, hml, hown, hts⟩ (c_X5_message l hl9 hA p0 p1 p2 p3 p4 hw) (cwV 5 hts gL_comes_X5_message rfl rfl rfl (by decide +kernel) ⟨Nat.le_of_ble_eq_true rfl, Nat.le_of_ble_eq_true rfl⟩) (xg_preV hB0 hP hK hN hS xs0 rfl) rfl rfl hl.1 rfl (lv_room (Nat.le_of_ble_eq_true rfl)) dL_comes_49 ⟨Nat.le_of_ble_eq_true rfl, Nat.le_of_ble_eq_true rfl⟩) hS (fun r14 h15 H locs hw hP hS => ?_)
  refine lv_istore (lv' := [(12, .int (r14)), (11, .int (x8)), (10, .int (r5)), (9, .int (r3)), (8, .int (r1)), (0, .ref (ad (0))), (1, .ref (ad (101))), (2, .ref (ad (102))), (3, .int (p0)), (4, .int (p1)), (5, .int (p2)), (6, .int (p3)), (7, .int (p4))]) hx hb dL_comes_52 hl (by decide) rfl (fun ls hl => ?_)
  refine lv_aload_n hx hb dL_comes_54 rfl (lv_at hl 5 rfl) ?_
  refine xg_calli (va_runV (As := []) (rest := []) ⟨hx, hb, hml, hown, hts⟩ (c_X5_messages l hl9 hA hw) (cwV 0 hts gL_comes_X5_messages rfl rfl rfl (by decide +kernel) ⟨Nat.le_of_ble_eq_true rfl, Nat.le_of_ble_eq_true rfl⟩) (xg_preV hB0 hP hK hN hS xs0 rfl) rfl rfl hl.1 rfl (lv_room (Nat.le_of_ble_eq_true rfl)) dL_comes_55 ⟨Nat.le_of_ble_eq_true rfl, Nat.le_of_ble_eq_true rfl⟩) hS (fun r16 h17 H locs hw hP hS => ?_)
  refine lv_iload hx hb dL_comes_58 (lv_at hl 1 rfl) ?_
  refine lv_iconst (v := 1) hx hb dL_comes_60 (by decide) ?_
  refine lv_iadd hx hb dL_comes_61 ?_
  refine lv_icmp_ne (tgt := 108) hx hb dL_comes_62 (by decide) (fun c18 => ?_) (fun c18 => ?_)
  · have hw := hw.2 c18
    exact j_108  (r1) (r3) (r5) (x8) (r14) _ _ _ _ hw hP hS (lv_sub hl [5, 7, 8, 4, 3, 2, 1, 0] rfl)
  · have hw := hw.1 c18
    refine lv_aload_n hx hb dL_comes_65 rfl (lv_at hl 5 rfl) ?_
    refine lv_iload hx hb dL_comes_66 (lv_at hl 1 rfl) ?_
    refine xg_calli (va_runV (As := [.int (x8)]) (rest := []) ⟨hx, hb, hml, hown, hts⟩ (c_X5_fateOf l hl9 hA x8 hw) (cwV 1 hts gL_comes_X5_fateOf rfl rfl rfl (by decide +kernel) ⟨Nat.le_of_ble_eq_true rfl, Nat.le_of_ble_eq_true rfl⟩) (xg_preV hB0 hP hK hN hS xs0 rfl) rfl rfl hl.1 rfl (lv_room (Nat.le_of_ble_eq_true rfl)) dL_comes_68 ⟨Nat.le_of_ble_eq_true rfl, Nat.le_of_ble_eq_true rfl⟩) hS (fun r19 h20 H locs hw hP hS => ?_)
    refine lv_iload hx hb dL_comes_71 (lv_at hl 0 rfl) ?_
    refine lv_icmp_ne (tgt := 108) hx hb dL_comes_73 (by decide) (fun c21 => ?_) (fun c21 => ?_)
    · have hw := hw.2 c21
      exact j_108  (r1) (r3) (r5) (x8) (r14) _ _ _ _ hw hP hS (lv_sub hl [5, 7, 8, 4, 3, 2, 1, 0] rfl)
    · have hw := hw.1 c21
      refine lv_iload hx hb dL_comes_76 (lv_at hl 0 rfl) ?_
      refine lv_iconst (v := 3) hx hb dL_comes_78 (by decide) ?_
      refine lv_icmp_ne (tgt := 86) hx hb dL_comes_79 (by decide) (fun c22 => ?_) (fun c22 => ?_)
      · have hw := hw.2 c22
        refine lv_iconst (v := 0) hx hb dL_comes_86 (by decide) ?_
        exact j_87  (r1) (r3) (r5) (x8) (r14) (0) _ _ _ _ hw hP hS (lv_sub hl [5, 7, 8, 4, 3, 2, 1, 0] rfl)
      · have hw := hw.1 c22
        refine lv_iconst (v := 1) hx hb dL_comes_82 (by decide) ?_
        refine lv_goto (tgt := 87) hx hb dL_comes_83 (by decide) ?_
        exact j_87  (r1) (r3) (r5) (x8) (r14) (1) _ _ _ _ hw hP hS (lv_sub hl [5, 7, 8, 4, 3, 2, 1, 0] rfl)
set_option maxHeartbeats 4000000 in
set_option maxRecDepth 100000 in
theorem c_L_step (l : Launch) (hl9 : l.stackTraces = false) {B0 : Nat} {ad : Nat → Nat} {D : va_G} {T : Nat → ClassId} (hA : XA B0 ad) (p0 : Int32) (p1 : Int32) (p2 : Int32) {h : xH} {K : Int32 → xH → Prop} (hw : w_L_step p0 p1 p2 h K) : XM l yL_step wsL_step ({ frames := 8, cells := 0, slots := 0, locals := 184 } : Room) B0 ad D T h [.ref (ad (0)), .ref (ad (101)), .ref (ad (102)), .int (p0), .int (p1), .int (p2)] xei K 0 0 := by
  unfold XM
  refine Met.ofW (cc := cL_step) (maxL := 11) (ret := (some .boolean)) (by decide) rfl ?_
  intro p e s m args below meth c s₁ B hml hv
  obtain ⟨rfl, hB0, hP, hK, hN⟩ := hv
  have hx := B.exec
  have hb := B.bytes
  have hr := B.returns
  have hts := atoms_spec (ws := wsL_step) B.pre
  have hown : s.vm.findClass RL = some m.cls := findClass_of_methodNamed B.named
  have hlocks := B.notSynchronized
  have hS : va_S (fun q => B0 ≤ q) s.heap s.heap [] := va_S.rf
  have hl := lv_entry ([.ref (ad (0)), .ref (ad (101)), .ref (ad (102)), .int (p0), .int (p1), .int (p2)]) (n := 11) (Nat.le_of_ble_eq_true rfl)
  rw [lg_entry_eq]
  generalize (lg_sl ([.ref (ad (0)), .ref (ad (101)), .ref (ad (102)), .int (p0), .int (p1), .int (p2)]) ++ List.replicate (11 - (lg_sl ([.ref (ad (0)), .ref (ad (101)), .ref (ad (102)), .int (p0), .int (p1), .int (p2)])).length) Slot.unset).toArray = ls at hl ⊢
  have hl : lv_has ls 11 [(0, .ref (ad (0))), (1, .ref (ad (101))), (2, .ref (ad (102))), (3, .int (p0)), (4, .int (p1)), (5, .int (p2))] := hl
  have j_509 : ∀ (h : xH) (H : Heap) (locs : List Loc) (ls : Array Slot), w_L_step_509 p0 p1 p2 K h → XP ad D T h H → va_S (fun q => B0 ≤ q) s.heap H locs → lv_has ls 11 [] → W p l e (headSpec wsL_step ({ frames := 8, cells := 0, slots := 0, locals := 184 } : Room)).room s m ([.ref (ad (0)), .ref (ad (101)), .ref (ad (102)), .int (p0), .int (p1), .int (p2)] : List Value).toArray below meth c H locs 0 0 (MQ below (XQ B0 ad D T xei K) ([.ref (ad (0)), .ref (ad (101)), .ref (ad (102)), .int (p0), .int (p1), .int (p2)] : List Value).toArray s 0 0 (fun q => B0 ≤ q)) (F0 m 509 ls []) := by
    intro h H locs ls hw hP hS hl 
    unfold w_L_step_509 at hw
    refine lv_iconst (v := 1) hx hb dL_step_509 (by decide) ?_
    refine lv_goto (tgt := 514) hx hb dL_step_510 (by decide) ?_
    exact xg_irets hx hb hr rfl hlocks hB0 hP hK hN hS dL_step_514 (by decide) (by decide) hw
  have j_501 : ∀ (s0 : Nat) (s3 : Int32) (s4 : Int32) (s5 : Int32) (s6 : Int32) (s7 : Int32) (s8 : Int32) (s9 : Int32) (h : xH) (H : Heap) (locs : List Loc) (ls : Array Slot), w_L_step_501 p0 p1 p2 K s0 s3 s4 s5 s6 s7 s8 s9 h → XP ad D T h H → va_S (fun q => B0 ≤ q) s.heap H locs → lv_has ls 11 [] → W p l e (headSpec wsL_step ({ frames := 8, cells := 0, slots := 0, locals := 184 } : Room)).room s m ([.ref (ad (0)), .ref (ad (101)), .ref (ad (102)), .int (p0), .int (p1), .int (p2)] : List Value).toArray below meth c H locs 0 0 (MQ below (XQ B0 ad D T xei K) ([.ref (ad (0)), .ref (ad (101)), .ref (ad (102)), .int (p0), .int (p1), .int (p2)] : List Value).toArray s 0 0 (fun q => B0 ≤ q)) (F0 m 501 ls [.int (s9), .int (s8), .int (s7), .int (s6), .int (s5), .int (s4), .int (s3), .ref (ad (102)), .ref (ad (101)), .ref (ad (0))]) := by
    intro s0 s3 s4 s5 s6 s7 s8 s9 h H locs ls hw hP hS hl 
    unfold w_L_step_501 at hw
    obtain ⟨hz42, hw⟩ := hw
    refine lv_irem hx hb dL_step_501 hz42 ?_
    refine lv_iadd hx hb dL_step_502 ?_
    refine xg_calli (va_runS (As := [.ref (ad (0)), .ref (ad (101)), .ref (ad (102)), .int (s3), .int (s4), .int (s5), .int (s6), .int ((s7 + (s8 - s8 / s9 * s9)))]) (rest := []) ⟨hx, hb, hml, hown, hts⟩ (c_L_comes l hl9 hA s3 s4 s5 s6 (s7 + (s8 - s8 / s9 * s9)) hw) (va_cwS 8 hts gL_step_L_comes rfl rfl rfl (by decide +kernel) ⟨Nat.le_of_ble_eq_true rfl, Nat.le_of_ble_eq_true rfl⟩) (xg_preS hB0 hP hK hN hS) rfl rfl hl.1 rfl (lv_room (Nat.le_of_ble_eq_true rfl)) dL_step_503 ⟨Nat.le_of_ble_eq_true rfl, Nat.le_of_ble_eq_true rfl⟩) hS (fun r43 h44 H locs hw hP hS => ?_)
    refine lv_if_eq (tgt := 513) hx hb dL_step_506 (by decide) (fun c45 => ?_) (fun c45 => ?_)
    · have hw := hw.1 c45
      refine lv_iconst (v := 0) hx hb dL_step_513 (by decide) ?_
      exact xg_irets hx hb hr rfl hlocks hB0 hP hK hN hS dL_step_514 (by decide) (by decide) hw
    · have hw := hw.2 c45
      exact j_509   _ _ _ _ hw hP hS (lv_sub hl [] rfl)
  have j_434 : ∀ (h : xH) (H : Heap) (locs : List Loc) (ls : Array Slot), w_L_step_434 p0 p1 p2 K h → XP ad D T h H → va_S (fun q => B0 ≤ q) s.heap H locs → lv_has ls 11 [] → W p l e (headSpec wsL_step ({ frames := 8, cells := 0, slots := 0, locals := 184 } : Room)).room s m ([.ref (ad (0)), .ref (ad (101)), .ref (ad (102)), .int (p0), .int (p1), .int (p2)] : List Value).toArray below meth c H locs 0 0 (MQ below (XQ B0 ad D T xei K) ([.ref (ad (0)), .ref (ad (101)), .ref (ad (102)), .int (p0), .int (p1), .int (p2)] : List Value).toArray s 0 0 (fun q => B0 ≤ q)) (F0 m 434 ls []) := by
    intro h H locs ls hw hP hS hl 
    unfold w_L_step_434 at hw
    refine lv_iconst (v := 1) hx hb dL_step_434 (by decide) ?_
    refine lv_goto (tgt := 439) hx hb dL_step_435 (by decide) ?_
    exact xg_irets hx hb hr rfl hlocks hB0 hP hK hN hS dL_step_439 (by decide) (by decide) hw
  have j_352 : ∀ (s0 : Nat) (s2 : Int32) (s3 : Int32) (s4 : Int32) (h : xH) (H : Heap) (locs : List Loc) (ls : Array Slot), w_L_step_352 p0 p1 p2 K s0 s2 s3 s4 h → XP ad D T h H → va_S (fun q => B0 ≤ q) s.heap H locs → lv_has ls 11 [] → W p l e (headSpec wsL_step ({ frames := 8, cells := 0, slots := 0, locals := 184 } : Room)).room s m ([.ref (ad (0)), .ref (ad (101)), .ref (ad (102)), .int (p0), .int (p1), .int (p2)] : List Value).toArray below meth c H locs 0 0 (MQ below (XQ B0 ad D T xei K) ([.ref (ad (0)), .ref (ad (101)), .ref (ad (102)), .int (p0), .int (p1), .int (p2)] : List Value).toArray s 0 0 (fun q => B0 ≤ q)) (F0 m 352 ls [.int (s4), .int (s3), .int (s2), .ref (ad (102)), .ref (ad (0))]) := by
    intro s0 s2 s3 s4 h H locs ls hw hP hS hl 
    unfold w_L_step_352 at hw
    obtain ⟨hz46, hw⟩ := hw
    refine lv_irem hx hb dL_step_352 hz46 ?_
    refine lv_iadd hx hb dL_step_353 ?_
    refine xg_calli (va_runS (As := [.ref (ad (0)), .ref (ad (102)), .int ((s2 + (s3 - s3 / s4 * s4)))]) (rest := []) ⟨hx, hb, hml, hown, hts⟩ (c_L_passes l hl9 hA (s2 + (s3 - s3 / s4 * s4)) hw) (va_cwS 3 hts gL_step_L_passes rfl rfl rfl (by decide +kernel) ⟨Nat.le_of_ble_eq_true rfl, Nat.le_of_ble_eq_true rfl⟩) (xg_preS hB0 hP hK hN hS) rfl rfl hl.1 rfl (lv_room (Nat.le_of_ble_eq_true rfl)) dL_step_354 ⟨Nat.le_of_ble_eq_true rfl, Nat.le_of_ble_eq_true rfl⟩) hS (fun r47 h48 H locs hw hP hS => ?_)
    obtain ⟨hz49, hw⟩ := hw
    exact xg_irets hx hb hr hz49 hlocks hB0 hP hK hN hS dL_step_357 (by decide) (by decide) hw
  have j_294 : ∀ (v8 : Int32) (s0 : Nat) (s1 : Int32) (s2 : Int32) (s3 : Int32) (h : xH) (H : Heap) (locs : List Loc) (ls : Array Slot), w_L_step_294 p0 p1 p2 K v8 s0 s1 s2 s3 h → XP ad D T h H → va_S (fun q => B0 ≤ q) s.heap H locs → lv_has ls 11 [(0, .ref (ad (0))), (2, .ref (ad (102))), (5, .int (p2)), (8, .int (v8))] → W p l e (headSpec wsL_step ({ frames := 8, cells := 0, slots := 0, locals := 184 } : Room)).room s m ([.ref (ad (0)), .ref (ad (101)), .ref (ad (102)), .int (p0), .int (p1), .int (p2)] : List Value).toArray below meth c H locs 0 0 (MQ below (XQ B0 ad D T xei K) ([.ref (ad (0)), .ref (ad (101)), .ref (ad (102)), .int (p0), .int (p1), .int (p2)] : List Value).toArray s 0 0 (fun q => B0 ≤ q)) (F0 m 294 ls [.int (s3), .int (s2), .int (s1), .ref (ad (0))]) := by
    intro v8 s0 s1 s2 s3 h H locs ls hw hP hS hl 
    unfold w_L_step_294 at hw
    refine lv_iload hx hb dL_step_294 (lv_at hl 2 rfl) ?_
    refine lv_bipush (v := 6) hx hb dL_step_296 (by decide) ?_
    refine lv_irem hx hb dL_step_298 (by decide) ?_
    refine xg_calli (va_runV (As := [.int (s1), .int (s2), .int (s3), .int ((p2 - p2 / 6 * 6))]) (rest := []) ⟨hx, hb, hml, hown, hts⟩ (c_X5_setFile l hl9 hA s1 s2 s3 (p2 - p2 / 6 * 6) hw) (cwV 4 hts gL_step_X5_setFile rfl rfl rfl (by decide +kernel) ⟨Nat.le_of_ble_eq_true rfl, Nat.le_of_ble_eq_true rfl⟩) (xg_preV hB0 hP hK hN hS xs0 rfl) rfl rfl hl.1 rfl (lv_room (Nat.le_of_ble_eq_true rfl)) dL_step_299 ⟨Nat.le_of_ble_eq_true rfl, Nat.le_of_ble_eq_true rfl⟩) hS (fun r55 h56 H locs hw hP hS => ?_)
    refine lv_aload_n hx hb dL_step_302 rfl (lv_at hl 0 rfl) ?_
    refine lv_iload hx hb dL_step_303 (lv_at hl 3 rfl) ?_
    refine xg_calli (va_runV (As := [.int (v8)]) (rest := [.int (r55)]) ⟨hx, hb, hml, hown, hts⟩ (c_X5_size l hl9 hA v8 hw) (cwV 1 hts gL_step_X5_size rfl rfl rfl (by decide +kernel) ⟨Nat.le_of_ble_eq_true rfl, Nat.le_of_ble_eq_true rfl⟩) (xg_preV hB0 hP hK hN hS xs0 rfl) rfl rfl hl.1 rfl (lv_room (Nat.le_of_ble_eq_true rfl)) dL_step_305 ⟨Nat.le_of_ble_eq_true rfl, Nat.le_of_ble_eq_true rfl⟩) hS (fun r57 h58 H locs hw hP hS => ?_)
    refine lv_icmp_ne (tgt := 331) hx hb dL_step_308 (by decide) (fun c59 => ?_) (fun c59 => ?_)
    · have hw := hw.2 c59
      refine lv_iconst (v := 0) hx hb dL_step_331 (by decide) ?_
      exact xg_irets hx hb hr rfl hlocks hB0 hP hK hN hS dL_step_332 (by decide) (by decide) hw
    · have hw := hw.1 c59
      refine lv_aload_n hx hb dL_step_311 rfl (lv_at hl 0 rfl) ?_
      refine lv_iload hx hb dL_step_312 (lv_at hl 3 rfl) ?_
      refine xg_calli (va_runV (As := [.int (v8)]) (rest := []) ⟨hx, hb, hml, hown, hts⟩ (c_X5_generations l hl9 hA v8 hw) (cwV 1 hts gL_step_X5_generations rfl rfl rfl (by decide +kernel) ⟨Nat.le_of_ble_eq_true rfl, Nat.le_of_ble_eq_true rfl⟩) (xg_preV hB0 hP hK hN hS xs0 rfl) rfl rfl hl.1 rfl (lv_room (Nat.le_of_ble_eq_true rfl)) dL_step_314 ⟨Nat.le_of_ble_eq_true rfl, Nat.le_of_ble_eq_true rfl⟩) hS (fun r60 h61 H locs hw hP hS => ?_)
      refine lv_aload_n hx hb dL_step_317 rfl (lv_at hl 1 rfl) ?_
      refine lv_bipush (v := 6) hx hb dL_step_318 (by decide) ?_
      refine lv_iload hx hb dL_step_320 (lv_at hl 3 rfl) ?_
      refine lv_iadd hx hb dL_step_322 ?_
      obtain ⟨hi62, hw⟩ := hw
      refine xg_iald hx hb hK hP xs102 hi62 dL_step_323 ?_
      refine lv_icmp_gt (tgt := 331) hx hb dL_step_324 (by decide) (fun c63 => ?_) (fun c63 => ?_)
      · have hw := hw.1 c63
        refine lv_iconst (v := 0) hx hb dL_step_331 (by decide) ?_
        exact xg_irets hx hb hr rfl hlocks hB0 hP hK hN hS dL_step_332 (by decide) (by decide) hw
      · have hw := hw.2 c63
        refine lv_iconst (v := 1) hx hb dL_step_327 (by decide) ?_
        refine lv_goto (tgt := 332) hx hb dL_step_328 (by decide) ?_
        exact xg_irets hx hb hr rfl hlocks hB0 hP hK hN hS dL_step_332 (by decide) (by decide) hw
  have j_258 : ∀ (v8 : Int32) (s1 : Int32) (s2 : Int32) (s3 : Int32) (s4 : Int32) (h : xH) (H : Heap) (locs : List Loc) (ls : Array Slot), w_L_step_258 p0 p1 p2 K v8 s1 s2 s3 s4 h → XP ad D T h H → va_S (fun q => B0 ≤ q) s.heap H locs → lv_has ls 11 [(0, .ref (ad (0))), (2, .ref (ad (102))), (4, .int (p1)), (5, .int (p2)), (8, .int (v8))] → W p l e (headSpec wsL_step ({ frames := 8, cells := 0, slots := 0, locals := 184 } : Room)).room s m ([.ref (ad (0)), .ref (ad (101)), .ref (ad (102)), .int (p0), .int (p1), .int (p2)] : List Value).toArray below meth c H locs 0 0 (MQ below (XQ B0 ad D T xei K) ([.ref (ad (0)), .ref (ad (101)), .ref (ad (102)), .int (p0), .int (p1), .int (p2)] : List Value).toArray s 0 0 (fun q => B0 ≤ q)) (F0 m 258 ls [.int (s4), .int (s3), .int (s2), .int (s1), .ref (ad (102))]) := by
    intro v8 s1 s2 s3 s4 h H locs ls hw hP hS hl 
    unfold w_L_step_258 at hw
    obtain ⟨hz50, hw⟩ := hw
    refine lv_irem hx hb dL_step_258 hz50 ?_
    refine lv_iadd hx hb dL_step_259 ?_
    obtain ⟨hi51, hw⟩ := hw
    refine xg_iast hx hb hK hP hA hS xs102 hi51 dL_step_260 (fun H locs h52 eh52 hP hS => ?_)
    have hw := hw h52 eh52
    refine lv_aload_n hx hb dL_step_261 rfl (lv_at hl 0 rfl) ?_
    refine lv_iload hx hb dL_step_262 (lv_at hl 4 rfl) ?_
    refine lv_aload_n hx hb dL_step_264 rfl (lv_at hl 1 rfl) ?_
    refine lv_bipush (v := 10) hx hb dL_step_265 (by decide) ?_
    refine lv_iload hx hb dL_step_267 (lv_at hl 4 rfl) ?_
    refine lv_iadd hx hb dL_step_269 ?_
    obtain ⟨hi53, hw⟩ := hw
    refine xg_iald hx hb hK hP xs102 hi53 dL_step_270 ?_
    refine lv_iload hx hb dL_step_271 (lv_at hl 2 rfl) ?_
    refine lv_iconst (v := 4) hx hb dL_step_273 (by decide) ?_
    refine lv_idiv hx hb dL_step_274 (by decide) ?_
    refine lv_iconst (v := 3) hx hb dL_step_275 (by decide) ?_
    refine lv_irem hx hb dL_step_276 (by decide) ?_
    refine lv_if_ne (tgt := 293) hx hb dL_step_277 (by decide) (fun c54 => ?_) (fun c54 => ?_)
    · have hw := hw.2 c54
      refine lv_iconst (v := 0) hx hb dL_step_293 (by decide) ?_
      exact j_294  (v8) (0) (v8) ((h52 102 ((10 : Int32) + v8).toNatClampNeg)) (0) _ _ _ _ hw hP hS (lv_sub hl [0, 1, 3, 4] rfl)
    · have hw := hw.1 c54
      refine lv_iconst (v := 1) hx hb dL_step_280 (by decide) ?_
      refine lv_iload hx hb dL_step_281 (lv_at hl 2 rfl) ?_
      refine lv_bipush (v := 12) hx hb dL_step_283 (by decide) ?_
      refine lv_idiv hx hb dL_step_285 (by decide) ?_
      refine lv_bipush (v := 60) hx hb dL_step_286 (by decide) ?_
      refine lv_irem hx hb dL_step_288 (by decide) ?_
      refine lv_iadd hx hb dL_step_289 ?_
      refine lv_goto (tgt := 294) hx hb dL_step_290 (by decide) ?_
      exact j_294  (v8) (0) (v8) ((h52 102 ((10 : Int32) + v8).toNatClampNeg)) (((1 : Int32) + ((p1 / 12) - (p1 / 12) / 60 * 60))) _ _ _ _ hw hP hS (lv_sub hl [0, 1, 3, 4] rfl)
  have j_191 : ∀ (v7 : Int32) (s1 : Int32) (s2 : Int32) (h : xH) (H : Heap) (locs : List Loc) (ls : Array Slot), w_L_step_191 p0 p1 p2 K v7 s1 s2 h → XP ad D T h H → va_S (fun q => B0 ≤ q) s.heap H locs → lv_has ls 11 [(0, .ref (ad (0))), (2, .ref (ad (102))), (7, .int (v7))] → W p l e (headSpec wsL_step ({ frames := 8, cells := 0, slots := 0, locals := 184 } : Room)).room s m ([.ref (ad (0)), .ref (ad (101)), .ref (ad (102)), .int (p0), .int (p1), .int (p2)] : List Value).toArray below meth c H locs 0 0 (MQ below (XQ B0 ad D T xei K) ([.ref (ad (0)), .ref (ad (101)), .ref (ad (102)), .int (p0), .int (p1), .int (p2)] : List Value).toArray s 0 0 (fun q => B0 ≤ q)) (F0 m 191 ls [.int (s2), .int (s1), .ref (ad (102))]) := by
    intro v7 s1 s2 h H locs ls hw hP hS hl 
    unfold w_L_step_191 at hw
    obtain ⟨hi64, hw⟩ := hw
    refine xg_iast hx hb hK hP hA hS xs102 hi64 dL_step_191 (fun H locs h65 eh65 hP hS => ?_)
    have hw := hw h65 eh65
    refine lv_aload_n hx hb dL_step_192 rfl (lv_at hl 0 rfl) ?_
    refine lv_aload_n hx hb dL_step_193 rfl (lv_at hl 1 rfl) ?_
    refine lv_iconst (v := 4) hx hb dL_step_194 (by decide) ?_
    obtain ⟨hi66, hw⟩ := hw
    refine xg_iald hx hb hK hP xs102 hi66 dL_step_195 ?_
    refine xg_calli (va_runV (As := [.int ((h65 102 (4 : Int32).toNatClampNeg))]) (rest := []) ⟨hx, hb, hml, hown, hts⟩ (c_X5_setFold l hl9 hA (h65 102 (4 : Int32).toNatClampNeg) hw) (cwV 1 hts gL_step_X5_setFold rfl rfl rfl (by decide +kernel) ⟨Nat.le_of_ble_eq_true rfl, Nat.le_of_ble_eq_true rfl⟩) (xg_preV hB0 hP hK hN hS xs0 rfl) rfl rfl hl.1 rfl (lv_room (Nat.le_of_ble_eq_true rfl)) dL_step_196 ⟨Nat.le_of_ble_eq_true rfl, Nat.le_of_ble_eq_true rfl⟩) hS (fun r67 h68 H locs hw hP hS => ?_)
    refine lv_iload hx hb dL_step_199 (lv_at hl 2 rfl) ?_
    refine lv_icmp_ne (tgt := 208) hx hb dL_step_201 (by decide) (fun c69 => ?_) (fun c69 => ?_)
    · have hw := hw.2 c69
      refine lv_iconst (v := 0) hx hb dL_step_208 (by decide) ?_
      exact xg_irets hx hb hr rfl hlocks hB0 hP hK hN hS dL_step_209 (by decide) (by decide) hw
    · have hw := hw.1 c69
      refine lv_iconst (v := 1) hx hb dL_step_204 (by decide) ?_
      refine lv_goto (tgt := 209) hx hb dL_step_205 (by decide) ?_
      exact xg_irets hx hb hr rfl hlocks hB0 hP hK hN hS dL_step_209 (by decide) (by decide) hw
  have j_144 : ∀ (v6 : Int32) (s1 : Int32) (s2 : Int32) (s3 : Int32) (s4 : Int32) (h : xH) (H : Heap) (locs : List Loc) (ls : Array Slot), w_L_step_144 p0 p1 p2 K v6 s1 s2 s3 s4 h → XP ad D T h H → va_S (fun q => B0 ≤ q) s.heap H locs → lv_has ls 11 [(0, .ref (ad (0))), (2, .ref (ad (102))), (6, .int (v6))] → W p l e (headSpec wsL_step ({ frames := 8, cells := 0, slots := 0, locals := 184 } : Room)).room s m ([.ref (ad (0)), .ref (ad (101)), .ref (ad (102)), .int (p0), .int (p1), .int (p2)] : List Value).toArray below meth c H locs 0 0 (MQ below (XQ B0 ad D T xei K) ([.ref (ad (0)), .ref (ad (101)), .ref (ad (102)), .int (p0), .int (p1), .int (p2)] : List Value).toArray s 0 0 (fun q => B0 ≤ q)) (F0 m 144 ls [.int (s4), .int (s3), .int (s2), .int (s1), .ref (ad (102))]) := by
    intro v6 s1 s2 s3 s4 h H locs ls hw hP hS hl 
    unfold w_L_step_144 at hw
    obtain ⟨hz74, hw⟩ := hw
    refine lv_irem hx hb dL_step_144 hz74 ?_
    refine lv_iadd hx hb dL_step_145 ?_
    obtain ⟨hi75, hw⟩ := hw
    refine xg_iast hx hb hK hP hA hS xs102 hi75 dL_step_146 (fun H locs h76 eh76 hP hS => ?_)
    have hw := hw h76 eh76
    refine lv_aload_n hx hb dL_step_147 rfl (lv_at hl 0 rfl) ?_
    refine lv_aload_n hx hb dL_step_148 rfl (lv_at hl 1 rfl) ?_
    refine lv_iconst (v := 2) hx hb dL_step_149 (by decide) ?_
    obtain ⟨hi77, hw⟩ := hw
    refine xg_iald hx hb hK hP xs102 hi77 dL_step_150 ?_
    refine lv_aload_n hx hb dL_step_151 rfl (lv_at hl 1 rfl) ?_
    refine lv_iconst (v := 3) hx hb dL_step_152 (by decide) ?_
    obtain ⟨hi78, hw⟩ := hw
    refine xg_iald hx hb hK hP xs102 hi78 dL_step_153 ?_
    refine xg_calli (va_runV (As := [.int ((h76 102 (2 : Int32).toNatClampNeg)), .int ((h76 102 (3 : Int32).toNatClampNeg))]) (rest := []) ⟨hx, hb, hml, hown, hts⟩ (c_X5_setRate l hl9 hA (h76 102 (2 : Int32).toNatClampNeg) (h76 102 (3 : Int32).toNatClampNeg) hw) (cwV 2 hts gL_step_X5_setRate rfl rfl rfl (by decide +kernel) ⟨Nat.le_of_ble_eq_true rfl, Nat.le_of_ble_eq_true rfl⟩) (xg_preV hB0 hP hK hN hS xs0 rfl) rfl rfl hl.1 rfl (lv_room (Nat.le_of_ble_eq_true rfl)) dL_step_154 ⟨Nat.le_of_ble_eq_true rfl, Nat.le_of_ble_eq_true rfl⟩) hS (fun r79 h80 H locs hw hP hS => ?_)
    refine lv_iload hx hb dL_step_157 (lv_at hl 2 rfl) ?_
    refine lv_icmp_ne (tgt := 166) hx hb dL_step_159 (by decide) (fun c81 => ?_) (fun c81 => ?_)
    · have hw := hw.2 c81
      refine lv_iconst (v := 0) hx hb dL_step_166 (by decide) ?_
      exact xg_irets hx hb hr rfl hlocks hB0 hP hK hN hS dL_step_167 (by decide) (by decide) hw
    · have hw := hw.1 c81
      refine lv_iconst (v := 1) hx hb dL_step_162 (by decide) ?_
      refine lv_goto (tgt := 167) hx hb dL_step_163 (by decide) ?_
      exact xg_irets hx hb hr rfl hlocks hB0 hP hK hN hS dL_step_167 (by decide) (by decide) hw
  have j_122 : ∀ (v6 : Int32) (s1 : Int32) (s2 : Int32) (s3 : Int32) (s4 : Int32) (h : xH) (H : Heap) (locs : List Loc) (ls : Array Slot), w_L_step_122 p0 p1 p2 K v6 s1 s2 s3 s4 h → XP ad D T h H → va_S (fun q => B0 ≤ q) s.heap H locs → lv_has ls 11 [(0, .ref (ad (0))), (2, .ref (ad (102))), (4, .int (p1)), (5, .int (p2)), (6, .int (v6))] → W p l e (headSpec wsL_step ({ frames := 8, cells := 0, slots := 0, locals := 184 } : Room)).room s m ([.ref (ad (0)), .ref (ad (101)), .ref (ad (102)), .int (p0), .int (p1), .int (p2)] : List Value).toArray below meth c H locs 0 0 (MQ below (XQ B0 ad D T xei K) ([.ref (ad (0)), .ref (ad (101)), .ref (ad (102)), .int (p0), .int (p1), .int (p2)] : List Value).toArray s 0 0 (fun q => B0 ≤ q)) (F0 m 122 ls [.int (s4), .int (s3), .int (s2), .int (s1), .ref (ad (102))]) := by
    intro v6 s1 s2 s3 s4 h H locs ls hw hP hS hl 
    unfold w_L_step_122 at hw
    obtain ⟨hz70, hw⟩ := hw
    refine lv_irem hx hb dL_step_122 hz70 ?_
    refine lv_iadd hx hb dL_step_123 ?_
    obtain ⟨hi71, hw⟩ := hw
    refine xg_iast hx hb hK hP hA hS xs102 hi71 dL_step_124 (fun H locs h72 eh72 hP hS => ?_)
    have hw := hw h72 eh72
    refine lv_aload_n hx hb dL_step_125 rfl (lv_at hl 1 rfl) ?_
    refine lv_iconst (v := 3) hx hb dL_step_126 (by decide) ?_
    refine lv_iconst (v := 1) hx hb dL_step_127 (by decide) ?_
    refine lv_iload hx hb dL_step_128 (lv_at hl 3 rfl) ?_
    refine lv_iload hx hb dL_step_130 (lv_at hl 2 rfl) ?_
    refine lv_iconst (v := 2) hx hb dL_step_132 (by decide) ?_
    refine lv_irem hx hb dL_step_133 (by decide) ?_
    refine lv_if_ne (tgt := 142) hx hb dL_step_134 (by decide) (fun c73 => ?_) (fun c73 => ?_)
    · have hw := hw.2 c73
      refine lv_bipush (v := 7) hx hb dL_step_142 (by decide) ?_
      exact j_144  (v6) (3) (1) (p2) (7) _ _ _ _ hw hP hS (lv_sub hl [0, 1, 4] rfl)
    · have hw := hw.1 c73
      refine lv_bipush (v := 60) hx hb dL_step_137 (by decide) ?_
      refine lv_goto (tgt := 144) hx hb dL_step_139 (by decide) ?_
      exact j_144  (v6) (3) (1) (p2) (60) _ _ _ _ hw hP hS (lv_sub hl [0, 1, 4] rfl)
  unfold w_L_step at hw
  refine lv_iload_n hx hb dL_step_0 rfl (lv_at hl 3 rfl) ?_
  refine lv_bipush (v := 12) hx hb dL_step_1 (by decide) ?_
  refine lv_irem hx hb dL_step_3 (by decide) ?_
  refine lv_topi (fun x1 ex1 => ?_)
  have hw := hw x1 ex1
  by_cases cs0 : x1 = 0
  · subst cs0
    have hw := hw.1 rfl
    refine lv_tableIn (off := 44) (tgt := 48) hx hb dL_step_4 (by decide +kernel) (by decide +kernel) (by decide +kernel) (by decide) ?_
    refine lv_aload_n hx hb dL_step_48 rfl (lv_at hl 0 rfl) ?_
    refine lv_iload hx hb dL_step_49 (lv_at hl 4 rfl) ?_
    refine lv_bipush (v := 6) hx hb dL_step_51 (by decide) ?_
    refine lv_irem hx hb dL_step_53 (by decide) ?_
    refine lv_iload hx hb dL_step_54 (lv_at hl 4 rfl) ?_
    refine lv_bipush (v := 6) hx hb dL_step_56 (by decide) ?_
    refine lv_idiv hx hb dL_step_58 (by decide) ?_
    refine lv_sipush (v := 256) hx hb dL_step_59 (by decide) ?_
    refine lv_irem hx hb dL_step_62 (by decide) ?_
    refine lv_iload hx hb dL_step_63 (lv_at hl 5 rfl) ?_
    refine lv_bipush (v := 8) hx hb dL_step_65 (by decide) ?_
    refine lv_irem hx hb dL_step_67 (by decide) ?_
    refine lv_iload hx hb dL_step_68 (lv_at hl 5 rfl) ?_
    refine lv_bipush (v := 8) hx hb dL_step_70 (by decide) ?_
    refine lv_idiv hx hb dL_step_72 (by decide) ?_
    refine lv_bipush (v := 7) hx hb dL_step_73 (by decide) ?_
    refine lv_irem hx hb dL_step_75 (by decide) ?_
    refine lv_iconst (v := 1) hx hb dL_step_76 (by decide) ?_
    refine lv_isub hx hb dL_step_77 ?_
    refine lv_iload hx hb dL_step_78 (lv_at hl 5 rfl) ?_
    refine lv_bipush (v := 56) hx hb dL_step_80 (by decide) ?_
    refine lv_idiv hx hb dL_step_82 (by decide) ?_
    refine lv_iconst (v := 5) hx hb dL_step_83 (by decide) ?_
    refine lv_irem hx hb dL_step_84 (by decide) ?_
    refine xg_calli (va_runV (As := [.int ((p1 - p1 / 6 * 6)), .int (((p1 / 6) - (p1 / 6) / 256 * 256)), .int ((p2 - p2 / 8 * 8)), .int ((((p2 / 8) - (p2 / 8) / 7 * 7) - 1)), .int (((p2 / 56) - (p2 / 56) / 5 * 5))]) (rest := []) ⟨hx, hb, hml, hown, hts⟩ (c_X5_setRule l hl9 hA (p1 - p1 / 6 * 6) ((p1 / 6) - (p1 / 6) / 256 * 256) (p2 - p2 / 8 * 8) (((p2 / 8) - (p2 / 8) / 7 * 7) - 1) ((p2 / 56) - (p2 / 56) / 5 * 5) hw) (cwV 5 hts gL_step_X5_setRule rfl rfl rfl (by decide +kernel) ⟨Nat.le_of_ble_eq_true rfl, Nat.le_of_ble_eq_true rfl⟩) (xg_preV hB0 hP hK hN hS xs0 rfl) rfl rfl hl.1 rfl (lv_room (Nat.le_of_ble_eq_true rfl)) dL_step_85 ⟨Nat.le_of_ble_eq_true rfl, Nat.le_of_ble_eq_true rfl⟩) hS (fun r2 h3 H locs hw hP hS => ?_)
    refine lv_iconst (v := 1) hx hb dL_step_88 (by decide) ?_
    refine lv_icmp_lt (tgt := 96) hx hb dL_step_89 (by decide) (fun c4 => ?_) (fun c4 => ?_)
    · have hw := hw.1 c4
      refine lv_iconst (v := 0) hx hb dL_step_96 (by decide) ?_
      exact xg_irets hx hb hr rfl hlocks hB0 hP hK hN hS dL_step_97 (by decide) (by decide) hw
    · have hw := hw.2 c4
      refine lv_iconst (v := 1) hx hb dL_step_92 (by decide) ?_
      refine lv_goto (tgt := 97) hx hb dL_step_93 (by decide) ?_
      exact xg_irets hx hb hr rfl hlocks hB0 hP hK hN hS dL_step_97 (by decide) (by decide) hw
  by_cases cs1 : x1 = 1
  · subst cs1
    have hw := hw.2.1 rfl
    refine lv_tableIn (off := 94) (tgt := 98) hx hb dL_step_4 (by decide +kernel) (by decide +kernel) (by decide +kernel) (by decide) ?_
    refine lv_aload_n hx hb dL_step_98 rfl (lv_at hl 2 rfl) ?_
    refine lv_iconst (v := 2) hx hb dL_step_99 (by decide) ?_
    obtain ⟨hi5, hw⟩ := hw
    refine xg_iald hx hb hK hP xs102 hi5 dL_step_100 ?_
    refine lv_topi (fun x6 ex6 => ?_)
    have hw := hw x6 ex6
    refine lv_istore (lv' := [(6, .int (x6)), (0, .ref (ad (0))), (1, .ref (ad (101))), (2, .ref (ad (102))), (3, .int (p0)), (4, .int (p1)), (5, .int (p2))]) hx hb dL_step_101 hl (by decide) rfl (fun ls hl => ?_)
    refine lv_aload_n hx hb dL_step_103 rfl (lv_at hl 3 rfl) ?_
    refine lv_iconst (v := 2) hx hb dL_step_104 (by decide) ?_
    refine lv_iconst (v := 1) hx hb dL_step_105 (by decide) ?_
    refine lv_iload hx hb dL_step_106 (lv_at hl 5 rfl) ?_
    refine lv_iload hx hb dL_step_108 (lv_at hl 6 rfl) ?_
    refine lv_iconst (v := 2) hx hb dL_step_110 (by decide) ?_
    refine lv_irem hx hb dL_step_111 (by decide) ?_
    refine lv_if_ne (tgt := 120) hx hb dL_step_112 (by decide) (fun c7 => ?_) (fun c7 => ?_)
    · have hw := hw.2 c7
      refine lv_bipush (v := 50) hx hb dL_step_120 (by decide) ?_
      exact j_122  (x6) (2) (1) (p1) (50) _ _ _ _ hw hP hS (lv_sub hl [1, 3, 5, 6, 0] rfl)
    · have hw := hw.1 c7
      refine lv_bipush (v := 6) hx hb dL_step_115 (by decide) ?_
      refine lv_goto (tgt := 122) hx hb dL_step_117 (by decide) ?_
      exact j_122  (x6) (2) (1) (p1) (6) _ _ _ _ hw hP hS (lv_sub hl [1, 3, 5, 6, 0] rfl)
  by_cases cs2 : x1 = 2
  · subst cs2
    have hw := hw.2.2.1 rfl
    refine lv_tableIn (off := 164) (tgt := 168) hx hb dL_step_4 (by decide +kernel) (by decide +kernel) (by decide +kernel) (by decide) ?_
    refine lv_aload_n hx hb dL_step_168 rfl (lv_at hl 2 rfl) ?_
    refine lv_iconst (v := 4) hx hb dL_step_169 (by decide) ?_
    obtain ⟨hi8, hw⟩ := hw
    refine xg_iald hx hb hK hP xs102 hi8 dL_step_170 ?_
    refine lv_topi (fun x9 ex9 => ?_)
    have hw := hw x9 ex9
    refine lv_istore (lv' := [(7, .int (x9)), (0, .ref (ad (0))), (1, .ref (ad (101))), (2, .ref (ad (102))), (3, .int (p0)), (4, .int (p1)), (5, .int (p2))]) hx hb dL_step_171 hl (by decide) rfl (fun ls hl => ?_)
    refine lv_aload_n hx hb dL_step_173 rfl (lv_at hl 3 rfl) ?_
    refine lv_iconst (v := 4) hx hb dL_step_174 (by decide) ?_
    refine lv_iload hx hb dL_step_175 (lv_at hl 6 rfl) ?_
    refine lv_iconst (v := 4) hx hb dL_step_177 (by decide) ?_
    refine lv_irem hx hb dL_step_178 (by decide) ?_
    refine lv_if_ne (tgt := 186) hx hb dL_step_179 (by decide) (fun c10 => ?_) (fun c10 => ?_)
    · have hw := hw.2 c10
      refine lv_iload hx hb dL_step_186 (lv_at hl 6 rfl) ?_
      refine lv_bipush (v := 101) hx hb dL_step_188 (by decide) ?_
      refine lv_irem hx hb dL_step_190 (by decide) ?_
      exact j_191  (x9) (4) ((p2 - p2 / 101 * 101)) _ _ _ _ hw hP hS (lv_sub hl [1, 3, 0] rfl)
    · have hw := hw.1 c10
      refine lv_iconst (v := 0) hx hb dL_step_182 (by decide) ?_
      refine lv_goto (tgt := 191) hx hb dL_step_183 (by decide) ?_
      exact j_191  (x9) (4) (0) _ _ _ _ hw hP hS (lv_sub hl [1, 3, 0] rfl)
  by_cases cs3 : x1 = 3
  · subst cs3
    have hw := hw.2.2.2.1 rfl
    refine lv_tableIn (off := 206) (tgt := 210) hx hb dL_step_4 (by decide +kernel) (by decide +kernel) (by decide +kernel) (by decide) ?_
    refine lv_iload hx hb dL_step_210 (lv_at hl 4 rfl) ?_
    refine lv_iconst (v := 4) hx hb dL_step_212 (by decide) ?_
    refine lv_irem hx hb dL_step_213 (by decide) ?_
    refine lv_topi (fun x11 ex11 => ?_)
    have hw := hw x11 ex11
    refine lv_istore (lv' := [(8, .int (x11)), (0, .ref (ad (0))), (1, .ref (ad (101))), (2, .ref (ad (102))), (3, .int (p0)), (4, .int (p1)), (5, .int (p2))]) hx hb dL_step_214 hl (by decide) rfl (fun ls hl => ?_)
    refine lv_aload_n hx hb dL_step_216 rfl (lv_at hl 3 rfl) ?_
    refine lv_bipush (v := 6) hx hb dL_step_217 (by decide) ?_
    refine lv_iload hx hb dL_step_219 (lv_at hl 0 rfl) ?_
    refine lv_iadd hx hb dL_step_221 ?_
    refine lv_iload hx hb dL_step_222 (lv_at hl 6 rfl) ?_
    refine lv_bipush (v := 6) hx hb dL_step_224 (by decide) ?_
    refine lv_irem hx hb dL_step_226 (by decide) ?_
    obtain ⟨hi12, hw⟩ := hw
    refine xg_iast hx hb hK hP hA hS xs102 hi12 dL_step_227 (fun H locs h13 eh13 hP hS => ?_)
    have hw := hw h13 eh13
    refine lv_aload_n hx hb dL_step_228 rfl (lv_at hl 3 rfl) ?_
    refine lv_bipush (v := 10) hx hb dL_step_229 (by decide) ?_
    refine lv_iload hx hb dL_step_231 (lv_at hl 0 rfl) ?_
    refine lv_iadd hx hb dL_step_233 ?_
    refine lv_sipush (v := 200) hx hb dL_step_234 (by decide) ?_
    refine lv_iload hx hb dL_step_237 (lv_at hl 6 rfl) ?_
    refine lv_bipush (v := 6) hx hb dL_step_239 (by decide) ?_
    refine lv_idiv hx hb dL_step_241 (by decide) ?_
    refine lv_iload hx hb dL_step_242 (lv_at hl 5 rfl) ?_
    refine lv_iconst (v := 3) hx hb dL_step_244 (by decide) ?_
    refine lv_irem hx hb dL_step_245 (by decide) ?_
    refine lv_if_ne (tgt := 255) hx hb dL_step_246 (by decide) (fun c14 => ?_) (fun c14 => ?_)
    · have hw := hw.2 c14
      refine lv_sipush (v := 200) hx hb dL_step_255 (by decide) ?_
      exact j_258  (x11) (((10 : Int32) + x11)) (200) ((p2 / 6)) (200) _ _ _ _ hw hP hS (lv_sub hl [1, 3, 5, 6, 0] rfl)
    · have hw := hw.1 c14
      refine lv_sipush (v := 4801) hx hb dL_step_249 (by decide) ?_
      refine lv_goto (tgt := 258) hx hb dL_step_252 (by decide) ?_
      exact j_258  (x11) (((10 : Int32) + x11)) (200) ((p2 / 6)) (4801) _ _ _ _ hw hP hS (lv_sub hl [1, 3, 5, 6, 0] rfl)
  by_cases cs4 : x1 = 4
  · subst cs4
    have hw := hw.2.2.2.2.1 rfl
    refine lv_tableIn (off := 329) (tgt := 333) hx hb dL_step_4 (by decide +kernel) (by decide +kernel) (by decide +kernel) (by decide) ?_
    refine lv_aload_n hx hb dL_step_333 rfl (lv_at hl 0 rfl) ?_
    refine lv_aload_n hx hb dL_step_334 rfl (lv_at hl 2 rfl) ?_
    refine lv_iconst (v := 1) hx hb dL_step_335 (by decide) ?_
    refine lv_iload hx hb dL_step_336 (lv_at hl 5 rfl) ?_
    refine lv_iload hx hb dL_step_338 (lv_at hl 4 rfl) ?_
    refine lv_iconst (v := 4) hx hb dL_step_340 (by decide) ?_
    refine lv_irem hx hb dL_step_341 (by decide) ?_
    refine lv_if_ne (tgt := 350) hx hb dL_step_342 (by decide) (fun c15 => ?_) (fun c15 => ?_)
    · have hw := hw.2 c15
      refine lv_bipush (v := 9) hx hb dL_step_350 (by decide) ?_
      exact j_352  (0) (1) (p2) (9) _ _ _ _ hw hP hS (lv_sub hl [] rfl)
    · have hw := hw.1 c15
      refine lv_bipush (v := 100) hx hb dL_step_345 (by decide) ?_
      refine lv_goto (tgt := 352) hx hb dL_step_347 (by decide) ?_
      exact j_352  (0) (1) (p2) (100) _ _ _ _ hw hP hS (lv_sub hl [] rfl)
  by_cases cs5 : x1 = 5
  · subst cs5
    have hw := hw.2.2.2.2.2.1 rfl
    refine lv_tableIn (off := 354) (tgt := 358) hx hb dL_step_4 (by decide +kernel) (by decide +kernel) (by decide +kernel) (by decide) ?_
    refine lv_iload hx hb dL_step_358 (lv_at hl 4 rfl) ?_
    refine lv_iconst (v := 4) hx hb dL_step_360 (by decide) ?_
    refine lv_irem hx hb dL_step_361 (by decide) ?_
    refine lv_topi (fun x16 ex16 => ?_)
    have hw := hw x16 ex16
    refine lv_istore (lv' := [(9, .int (x16)), (0, .ref (ad (0))), (1, .ref (ad (101))), (2, .ref (ad (102))), (3, .int (p0)), (4, .int (p1)), (5, .int (p2))]) hx hb dL_step_362 hl (by decide) rfl (fun ls hl => ?_)
    refine lv_aload_n hx hb dL_step_364 rfl (lv_at hl 1 rfl) ?_
    refine lv_iload hx hb dL_step_365 (lv_at hl 0 rfl) ?_
    refine lv_iconst (v := (-1)) hx hb dL_step_367 (by decide) ?_
    refine xg_calli (va_runV (As := [.int (x16), .int ((-1))]) (rest := []) ⟨hx, hb, hml, hown, hts⟩ (c_X5_lines l hl9 hA x16 ((-1) : Int32) hw) (cwV 2 hts gL_step_X5_lines rfl rfl rfl (by decide +kernel) ⟨Nat.le_of_ble_eq_true rfl, Nat.le_of_ble_eq_true rfl⟩) (xg_preV hB0 hP hK hN hS xs0 rfl) rfl rfl hl.1 rfl (lv_room (Nat.le_of_ble_eq_true rfl)) dL_step_368 ⟨Nat.le_of_ble_eq_true rfl, Nat.le_of_ble_eq_true rfl⟩) hS (fun r17 h18 H locs hw hP hS => ?_)
    refine lv_istore (lv' := [(10, .int (r17)), (9, .int (x16)), (0, .ref (ad (0))), (1, .ref (ad (101))), (2, .ref (ad (102))), (3, .int (p0)), (4, .int (p1)), (5, .int (p2))]) hx hb dL_step_371 hl (by decide) rfl (fun ls hl => ?_)
    refine lv_iload hx hb dL_step_373 (lv_at hl 0 rfl) ?_
    refine lv_if_eq (tgt := 434) hx hb dL_step_375 (by decide) (fun c19 => ?_) (fun c19 => ?_)
    · have hw := hw.1 c19
      exact j_434   _ _ _ _ hw hP hS (lv_sub hl [] rfl)
    · have hw := hw.2 c19
      refine lv_aload_n hx hb dL_step_378 rfl (lv_at hl 2 rfl) ?_
      refine lv_iload hx hb dL_step_379 (lv_at hl 1 rfl) ?_
      refine xg_calli (va_runV (As := [.int (x16)]) (rest := []) ⟨hx, hb, hml, hown, hts⟩ (c_X5_rotate l hl9 hA x16 hw) (cwV 1 hts gL_step_X5_rotate rfl rfl rfl (by decide +kernel) ⟨Nat.le_of_ble_eq_true rfl, Nat.le_of_ble_eq_true rfl⟩) (xg_preV hB0 hP hK hN hS xs0 rfl) rfl rfl hl.1 rfl (lv_room (Nat.le_of_ble_eq_true rfl)) dL_step_381 ⟨Nat.le_of_ble_eq_true rfl, Nat.le_of_ble_eq_true rfl⟩) hS (fun r20 h21 H locs hw hP hS => ?_)
      refine lv_aload_n hx hb dL_step_384 rfl (lv_at hl 2 rfl) ?_
      refine lv_iload hx hb dL_step_385 (lv_at hl 1 rfl) ?_
      refine xg_calli (va_runV (As := [.int (x16)]) (rest := [.int (r20)]) ⟨hx, hb, hml, hown, hts⟩ (c_X5_generations l hl9 hA x16 hw) (cwV 1 hts gL_step_X5_generations rfl rfl rfl (by decide +kernel) ⟨Nat.le_of_ble_eq_true rfl, Nat.le_of_ble_eq_true rfl⟩) (xg_preV hB0 hP hK hN hS xs0 rfl) rfl rfl hl.1 rfl (lv_room (Nat.le_of_ble_eq_true rfl)) dL_step_387 ⟨Nat.le_of_ble_eq_true rfl, Nat.le_of_ble_eq_true rfl⟩) hS (fun r22 h23 H locs hw hP hS => ?_)
      refine lv_icmp_ne (tgt := 438) hx hb dL_step_390 (by decide) (fun c24 => ?_) (fun c24 => ?_)
      · have hw := hw.2 c24
        refine lv_iconst (v := 0) hx hb dL_step_438 (by decide) ?_
        exact xg_irets hx hb hr rfl hlocks hB0 hP hK hN hS dL_step_439 (by decide) (by decide) hw
      · have hw := hw.1 c24
        refine lv_aload_n hx hb dL_step_393 rfl (lv_at hl 2 rfl) ?_
        refine lv_iload hx hb dL_step_394 (lv_at hl 1 rfl) ?_
        refine xg_calli (va_runV (As := [.int (x16)]) (rest := []) ⟨hx, hb, hml, hown, hts⟩ (c_X5_size l hl9 hA x16 hw) (cwV 1 hts gL_step_X5_size rfl rfl rfl (by decide +kernel) ⟨Nat.le_of_ble_eq_true rfl, Nat.le_of_ble_eq_true rfl⟩) (xg_preV hB0 hP hK hN hS xs0 rfl) rfl rfl hl.1 rfl (lv_room (Nat.le_of_ble_eq_true rfl)) dL_step_396 ⟨Nat.le_of_ble_eq_true rfl, Nat.le_of_ble_eq_true rfl⟩) hS (fun r25 h26 H locs hw hP hS => ?_)
        refine lv_if_ne (tgt := 438) hx hb dL_step_399 (by decide) (fun c27 => ?_) (fun c27 => ?_)
        · have hw := hw.2 c27
          refine lv_iconst (v := 0) hx hb dL_step_438 (by decide) ?_
          exact xg_irets hx hb hr rfl hlocks hB0 hP hK hN hS dL_step_439 (by decide) (by decide) hw
        · have hw := hw.1 c27
          refine lv_aload_n hx hb dL_step_402 rfl (lv_at hl 2 rfl) ?_
          refine lv_iload hx hb dL_step_403 (lv_at hl 1 rfl) ?_
          refine lv_iconst (v := (-1)) hx hb dL_step_405 (by decide) ?_
          refine xg_calli (va_runV (As := [.int (x16), .int ((-1))]) (rest := []) ⟨hx, hb, hml, hown, hts⟩ (c_X5_lines l hl9 hA x16 ((-1) : Int32) hw) (cwV 2 hts gL_step_X5_lines rfl rfl rfl (by decide +kernel) ⟨Nat.le_of_ble_eq_true rfl, Nat.le_of_ble_eq_true rfl⟩) (xg_preV hB0 hP hK hN hS xs0 rfl) rfl rfl hl.1 rfl (lv_room (Nat.le_of_ble_eq_true rfl)) dL_step_406 ⟨Nat.le_of_ble_eq_true rfl, Nat.le_of_ble_eq_true rfl⟩) hS (fun r28 h29 H locs hw hP hS => ?_)
          refine lv_if_ne (tgt := 438) hx hb dL_step_409 (by decide) (fun c30 => ?_) (fun c30 => ?_)
          · have hw := hw.2 c30
            refine lv_iconst (v := 0) hx hb dL_step_438 (by decide) ?_
            exact xg_irets hx hb hr rfl hlocks hB0 hP hK hN hS dL_step_439 (by decide) (by decide) hw
          · have hw := hw.1 c30
            refine lv_aload_n hx hb dL_step_412 rfl (lv_at hl 4 rfl) ?_
            refine lv_bipush (v := 6) hx hb dL_step_413 (by decide) ?_
            refine lv_iload hx hb dL_step_415 (lv_at hl 1 rfl) ?_
            refine lv_iadd hx hb dL_step_417 ?_
            obtain ⟨hi31, hw⟩ := hw
            refine xg_iald hx hb hK hP xs102 hi31 dL_step_418 ?_
            refine lv_if_eq (tgt := 434) hx hb dL_step_419 (by decide) (fun c32 => ?_) (fun c32 => ?_)
            · have hw := hw.1 c32
              exact j_434   _ _ _ _ hw hP hS (lv_sub hl [] rfl)
            · have hw := hw.2 c32
              refine lv_aload_n hx hb dL_step_422 rfl (lv_at hl 2 rfl) ?_
              refine lv_iload hx hb dL_step_423 (lv_at hl 1 rfl) ?_
              refine lv_iconst (v := 0) hx hb dL_step_425 (by decide) ?_
              refine xg_calli (va_runV (As := [.int (x16), .int (0)]) (rest := []) ⟨hx, hb, hml, hown, hts⟩ (c_X5_lines l hl9 hA x16 (0 : Int32) hw) (cwV 2 hts gL_step_X5_lines rfl rfl rfl (by decide +kernel) ⟨Nat.le_of_ble_eq_true rfl, Nat.le_of_ble_eq_true rfl⟩) (xg_preV hB0 hP hK hN hS xs0 rfl) rfl rfl hl.1 rfl (lv_room (Nat.le_of_ble_eq_true rfl)) dL_step_426 ⟨Nat.le_of_ble_eq_true rfl, Nat.le_of_ble_eq_true rfl⟩) hS (fun r33 h34 H locs hw hP hS => ?_)
              refine lv_iload hx hb dL_step_429 (lv_at hl 0 rfl) ?_
              refine lv_icmp_ne (tgt := 438) hx hb dL_step_431 (by decide) (fun c35 => ?_) (fun c35 => ?_)
              · have hw := hw.2 c35
                refine lv_iconst (v := 0) hx hb dL_step_438 (by decide) ?_
                exact xg_irets hx hb hr rfl hlocks hB0 hP hK hN hS dL_step_439 (by decide) (by decide) hw
              · have hw := hw.1 c35
                exact j_434   _ _ _ _ hw hP hS (lv_sub hl [] rfl)
  by_cases cs6 : x1 = 6
  · subst cs6
    have hw := hw.2.2.2.2.2.2.1 rfl
    refine lv_tableIn (off := 436) (tgt := 440) hx hb dL_step_4 (by decide +kernel) (by decide +kernel) (by decide +kernel) (by decide) ?_
    refine lv_aload_n hx hb dL_step_440 rfl (lv_at hl 0 rfl) ?_
    refine lv_aload_n hx hb dL_step_441 rfl (lv_at hl 2 rfl) ?_
    refine lv_iload hx hb dL_step_442 (lv_at hl 5 rfl) ?_
    refine xg_calli (va_runS (As := [.ref (ad (0)), .ref (ad (102)), .int (p2)]) (rest := []) ⟨hx, hb, hml, hown, hts⟩ (c_L_forwards l hl9 hA p2 hw) (va_cwS 3 hts gL_step_L_forwards rfl rfl rfl (by decide +kernel) ⟨Nat.le_of_ble_eq_true rfl, Nat.le_of_ble_eq_true rfl⟩) (xg_preS hB0 hP hK hN hS) rfl rfl hl.1 rfl (lv_room (Nat.le_of_ble_eq_true rfl)) dL_step_444 ⟨Nat.le_of_ble_eq_true rfl, Nat.le_of_ble_eq_true rfl⟩) hS (fun r36 h37 H locs hw hP hS => ?_)
    obtain ⟨hz38, hw⟩ := hw
    exact xg_irets hx hb hr hz38 hlocks hB0 hP hK hN hS dL_step_447 (by decide) (by decide) hw
  have hw := hw.2.2.2.2.2.2.2 ⟨cs0, cs1, cs2, cs3, cs4, cs5, cs6⟩
  refine lv_tableOut (tgt := 448) hx hb dL_step_4 (xtab7 cs0 cs1 cs2 cs3 cs4 cs5 cs6) (by decide) ?_
  refine lv_aload_n hx hb dL_step_448 rfl (lv_at hl 2 rfl) ?_
  refine lv_iconst (v := 0) hx hb dL_step_449 (by decide) ?_
  obtain ⟨hi39, hw⟩ := hw
  refine xg_iald hx hb hK hP xs102 hi39 dL_step_450 ?_
  refine lv_bipush (v := 60) hx hb dL_step_451 (by decide) ?_
  refine lv_icmp_eq (tgt := 509) hx hb dL_step_453 (by decide) (fun c40 => ?_) (fun c40 => ?_)
  · have hw := hw.1 c40
    exact j_509   _ _ _ _ hw hP hS (lv_sub hl [] rfl)
  · have hw := hw.2 c40
    refine lv_aload_n hx hb dL_step_456 rfl (lv_at hl 0 rfl) ?_
    refine lv_aload_n hx hb dL_step_457 rfl (lv_at hl 1 rfl) ?_
    refine lv_aload_n hx hb dL_step_458 rfl (lv_at hl 2 rfl) ?_
    refine lv_iload hx hb dL_step_459 (lv_at hl 4 rfl) ?_
    refine lv_bipush (v := 6) hx hb dL_step_461 (by decide) ?_
    refine lv_irem hx hb dL_step_463 (by decide) ?_
    refine lv_iload hx hb dL_step_464 (lv_at hl 5 rfl) ?_
    refine lv_iconst (v := 3) hx hb dL_step_466 (by decide) ?_
    refine lv_irem hx hb dL_step_467 (by decide) ?_
    refine lv_iload hx hb dL_step_468 (lv_at hl 4 rfl) ?_
    refine lv_bipush (v := 6) hx hb dL_step_470 (by decide) ?_
    refine lv_idiv hx hb dL_step_472 (by decide) ?_
    refine lv_iconst (v := 3) hx hb dL_step_473 (by decide) ?_
    refine lv_irem hx hb dL_step_474 (by decide) ?_
    refine lv_iload hx hb dL_step_475 (lv_at hl 5 rfl) ?_
    refine lv_iconst (v := 3) hx hb dL_step_477 (by decide) ?_
    refine lv_idiv hx hb dL_step_478 (by decide) ?_
    refine lv_iconst (v := 2) hx hb dL_step_479 (by decide) ?_
    refine lv_irem hx hb dL_step_480 (by decide) ?_
    refine lv_iconst (v := 1) hx hb dL_step_481 (by decide) ?_
    refine lv_iload hx hb dL_step_482 (lv_at hl 5 rfl) ?_
    refine lv_bipush (v := 6) hx hb dL_step_484 (by decide) ?_
    refine lv_idiv hx hb dL_step_486 (by decide) ?_
    refine lv_iload hx hb dL_step_487 (lv_at hl 4 rfl) ?_
    refine lv_iconst (v := 2) hx hb dL_step_489 (by decide) ?_
    refine lv_irem hx hb dL_step_490 (by decide) ?_
    refine lv_if_ne (tgt := 500) hx hb dL_step_491 (by decide) (fun c41 => ?_) (fun c41 => ?_)
    · have hw := hw.2 c41
      refine lv_iconst (v := 2) hx hb dL_step_500 (by decide) ?_
      exact j_501  (0) ((p1 - p1 / 6 * 6)) ((p2 - p2 / 3 * 3)) (((p1 / 6) - (p1 / 6) / 3 * 3)) (((p2 / 3) - (p2 / 3) / 2 * 2)) (1) ((p2 / 6)) (2) _ _ _ _ hw hP hS (lv_sub hl [] rfl)
    · have hw := hw.1 c41
      refine lv_sipush (v := 200) hx hb dL_step_494 (by decide) ?_
      refine lv_goto (tgt := 501) hx hb dL_step_497 (by decide) ?_
      exact j_501  (0) ((p1 - p1 / 6 * 6)) ((p2 - p2 / 3 * 3)) (((p1 / 6) - (p1 / 6) / 3 * 3)) (((p2 / 3) - (p2 / 3) / 2 * 2)) (1) ((p2 / 6)) (200) _ _ _ _ hw hP hS (lv_sub hl [] rfl)
set_option maxHeartbeats 4000000 in
set_option maxRecDepth 100000 in
theorem c_L_areFiles (l : Launch) (hl9 : l.stackTraces = false) {B0 : Nat} {ad : Nat → Nat} {D : va_G} {T : Nat → ClassId} (hA : XA B0 ad) {h : xH} {K : Int32 → xH → Prop} (hw : w_L_areFiles h K) : XM l yL_areFiles wsL_areFiles ({ frames := 3, cells := 0, slots := 0, locals := 69 } : Room) B0 ad D T h [.ref (ad (0)), .ref (ad (101)), .ref (ad (102))] xei K 0 0 := by
  unfold XM
  refine Met.ofW (cc := cL_areFiles) (maxL := 12) (ret := (some .boolean)) (by decide) rfl ?_
  intro p e s m args below meth c s₁ B hml hv
  obtain ⟨rfl, hB0, hP, hK, hN⟩ := hv
  have hx := B.exec
  have hb := B.bytes
  have hr := B.returns
  have hts := atoms_spec (ws := wsL_areFiles) B.pre
  have hown : s.vm.findClass RL = some m.cls := findClass_of_methodNamed B.named
  have hlocks := B.notSynchronized
  have hS : va_S (fun q => B0 ≤ q) s.heap s.heap [] := va_S.rf
  have hl := lv_entry ([.ref (ad (0)), .ref (ad (101)), .ref (ad (102))]) (n := 12) (Nat.le_of_ble_eq_true rfl)
  rw [lg_entry_eq]
  generalize (lg_sl ([.ref (ad (0)), .ref (ad (101)), .ref (ad (102))]) ++ List.replicate (12 - (lg_sl ([.ref (ad (0)), .ref (ad (101)), .ref (ad (102))])).length) Slot.unset).toArray = ls at hl ⊢
  have hl : lv_has ls 12 [(0, .ref (ad (0))), (1, .ref (ad (101))), (2, .ref (ad (102)))] := hl
  have j_271 : ∀ (R5 : Int32 → Int32 → xH → Prop) (hR5 : ∀ (v3 : Int32) (v4 : Int32) (h : xH) (H : Heap) (locs : List Loc) (ls : Array Slot), R5 v3 v4 h → XP ad D T h H → va_S (fun q => B0 ≤ q) s.heap H locs → lv_has ls 12 [(0, .ref (ad (0))), (1, .ref (ad (101))), (2, .ref (ad (102))), (3, .int (v3)), (4, .int (v4))] → W p l e (headSpec wsL_areFiles ({ frames := 3, cells := 0, slots := 0, locals := 69 } : Room)).room s m ([.ref (ad (0)), .ref (ad (101)), .ref (ad (102))] : List Value).toArray below meth c H locs 0 0 (MQ below (XQ B0 ad D T xei K) ([.ref (ad (0)), .ref (ad (101)), .ref (ad (102))] : List Value).toArray s 0 0 (fun q => B0 ≤ q)) (F0 m 5 ls [])) (v3 : Int32) (v4 : Int32) (h : xH) (H : Heap) (locs : List Loc) (ls : Array Slot), w_L_areFiles_271 K R5 v3 v4 h → XP ad D T h H → va_S (fun q => B0 ≤ q) s.heap H locs → lv_has ls 12 [(0, .ref (ad (0))), (1, .ref (ad (101))), (2, .ref (ad (102))), (3, .int (v3)), (4, .int (v4))] → W p l e (headSpec wsL_areFiles ({ frames := 3, cells := 0, slots := 0, locals := 69 } : Room)).room s m ([.ref (ad (0)), .ref (ad (101)), .ref (ad (102))] : List Value).toArray below meth c H locs 0 0 (MQ below (XQ B0 ad D T xei K) ([.ref (ad (0)), .ref (ad (101)), .ref (ad (102))] : List Value).toArray s 0 0 (fun q => B0 ≤ q)) (F0 m 271 ls []) := by
    intro R5 hR5 v3 v4 h H locs ls hw hP hS hl 
    unfold w_L_areFiles_271 at hw
    obtain ⟨x32, ex32⟩ : ∃ z : Int32, z = v4 + 1 := ⟨_, rfl⟩
    have hw := hw x32 ex32
    refine lv_iinc (v := x32) (lv' := [(4, .int (x32)), (0, .ref (ad (0))), (1, .ref (ad (101))), (2, .ref (ad (102))), (3, .int (v3))]) hx hb dL_areFiles_271 hl (k := 4) rfl (by rw [ex32]; rfl) (by decide) rfl (fun ls hl => ?_)
    refine lv_goto (tgt := 5) hx hb dL_areFiles_274 (by decide) ?_
    exact hR5 (v3) (x32) _ _ _ _ hw hP hS (lv_sub hl [1, 2, 3, 4, 0] rfl)
  have j_257 : ∀ (R5 : Int32 → Int32 → xH → Prop) (hR5 : ∀ (v3 : Int32) (v4 : Int32) (h : xH) (H : Heap) (locs : List Loc) (ls : Array Slot), R5 v3 v4 h → XP ad D T h H → va_S (fun q => B0 ≤ q) s.heap H locs → lv_has ls 12 [(0, .ref (ad (0))), (1, .ref (ad (101))), (2, .ref (ad (102))), (3, .int (v3)), (4, .int (v4))] → W p l e (headSpec wsL_areFiles ({ frames := 3, cells := 0, slots := 0, locals := 69 } : Room)).room s m ([.ref (ad (0)), .ref (ad (101)), .ref (ad (102))] : List Value).toArray below meth c H locs 0 0 (MQ below (XQ B0 ad D T xei K) ([.ref (ad (0)), .ref (ad (101)), .ref (ad (102))] : List Value).toArray s 0 0 (fun q => B0 ≤ q)) (F0 m 5 ls [])) (R143 : Int32 → Int32 → Int32 → Int32 → xH → Prop) (hR143 : ∀ (v3 : Int32) (v4 : Int32) (v7 : Int32) (v8 : Int32) (h : xH) (H : Heap) (locs : List Loc) (ls : Array Slot), R143 v3 v4 v7 v8 h → XP ad D T h H → va_S (fun q => B0 ≤ q) s.heap H locs → lv_has ls 12 [(0, .ref (ad (0))), (1, .ref (ad (101))), (2, .ref (ad (102))), (3, .int (v3)), (4, .int (v4)), (7, .int (v7)), (8, .int (v8))] → W p l e (headSpec wsL_areFiles ({ frames := 3, cells := 0, slots := 0, locals := 69 } : Room)).room s m ([.ref (ad (0)), .ref (ad (101)), .ref (ad (102))] : List Value).toArray below meth c H locs 0 0 (MQ below (XQ B0 ad D T xei K) ([.ref (ad (0)), .ref (ad (101)), .ref (ad (102))] : List Value).toArray s 0 0 (fun q => B0 ≤ q)) (F0 m 143 ls [])) (R183 : Int32 → Int32 → Int32 → Int32 → Int32 → Int32 → xH → Prop) (hR183 : ∀ (v3 : Int32) (v4 : Int32) (v7 : Int32) (v8 : Int32) (v9 : Int32) (v10 : Int32) (h : xH) (H : Heap) (locs : List Loc) (ls : Array Slot), R183 v3 v4 v7 v8 v9 v10 h → XP ad D T h H → va_S (fun q => B0 ≤ q) s.heap H locs → lv_has ls 12 [(0, .ref (ad (0))), (1, .ref (ad (101))), (2, .ref (ad (102))), (3, .int (v3)), (4, .int (v4)), (7, .int (v7)), (8, .int (v8)), (9, .int (v9)), (10, .int (v10))] → W p l e (headSpec wsL_areFiles ({ frames := 3, cells := 0, slots := 0, locals := 69 } : Room)).room s m ([.ref (ad (0)), .ref (ad (101)), .ref (ad (102))] : List Value).toArray below meth c H locs 0 0 (MQ below (XQ B0 ad D T xei K) ([.ref (ad (0)), .ref (ad (101)), .ref (ad (102))] : List Value).toArray s 0 0 (fun q => B0 ≤ q)) (F0 m 183 ls [])) (v3 : Int32) (v4 : Int32) (v8 : Int32) (v9 : Int32) (v10 : Int32) (s0 : Int32) (h : xH) (H : Heap) (locs : List Loc) (ls : Array Slot), w_L_areFiles_257 K R5 R143 R183 v3 v4 v8 v9 v10 s0 h → XP ad D T h H → va_S (fun q => B0 ≤ q) s.heap H locs → lv_has ls 12 [(0, .ref (ad (0))), (1, .ref (ad (101))), (2, .ref (ad (102))), (3, .int (v3)), (4, .int (v4)), (8, .int (v8)), (9, .int (v9)), (10, .int (v10))] → W p l e (headSpec wsL_areFiles ({ frames := 3, cells := 0, slots := 0, locals := 69 } : Room)).room s m ([.ref (ad (0)), .ref (ad (101)), .ref (ad (102))] : List Value).toArray below meth c H locs 0 0 (MQ below (XQ B0 ad D T xei K) ([.ref (ad (0)), .ref (ad (101)), .ref (ad (102))] : List Value).toArray s 0 0 (fun q => B0 ≤ q)) (F0 m 257 ls [.int (s0)]) := by
    intro R5 hR5 R143 hR143 R183 hR183 v3 v4 v8 v9 v10 s0 h H locs ls hw hP hS hl 
    unfold w_L_areFiles_257 at hw
    refine lv_istore (lv' := [(7, .int (s0)), (0, .ref (ad (0))), (1, .ref (ad (101))), (2, .ref (ad (102))), (3, .int (v3)), (4, .int (v4)), (8, .int (v8)), (9, .int (v9)), (10, .int (v10))]) hx hb dL_areFiles_257 hl (by decide) rfl (fun ls hl => ?_)
    obtain ⟨x44, ex44⟩ : ∃ z : Int32, z = v10 + 1 := ⟨_, rfl⟩
    have hw := hw x44 ex44
    refine lv_iinc (v := x44) (lv' := [(10, .int (x44)), (7, .int (s0)), (0, .ref (ad (0))), (1, .ref (ad (101))), (2, .ref (ad (102))), (3, .int (v3)), (4, .int (v4)), (8, .int (v8)), (9, .int (v9))]) hx hb dL_areFiles_259 hl (k := 8) rfl (by rw [ex44]; rfl) (by decide) rfl (fun ls hl => ?_)
    refine lv_goto (tgt := 183) hx hb dL_areFiles_262 (by decide) ?_
    exact hR183 (v3) (v4) (s0) (v8) (v9) (x44) _ _ _ _ hw hP hS (lv_sub hl [2, 3, 4, 5, 6, 1, 7, 8, 0] rfl)
  have j_241 : ∀ (R5 : Int32 → Int32 → xH → Prop) (hR5 : ∀ (v3 : Int32) (v4 : Int32) (h : xH) (H : Heap) (locs : List Loc) (ls : Array Slot), R5 v3 v4 h → XP ad D T h H → va_S (fun q => B0 ≤ q) s.heap H locs → lv_has ls 12 [(0, .ref (ad (0))), (1, .ref (ad (101))), (2, .ref (ad (102))), (3, .int (v3)), (4, .int (v4))] → W p l e (headSpec wsL_areFiles ({ frames := 3, cells := 0, slots := 0, locals := 69 } : Room)).room s m ([.ref (ad (0)), .ref (ad (101)), .ref (ad (102))] : List Value).toArray below meth c H locs 0 0 (MQ below (XQ B0 ad D T xei K) ([.ref (ad (0)), .ref (ad (101)), .ref (ad (102))] : List Value).toArray s 0 0 (fun q => B0 ≤ q)) (F0 m 5 ls [])) (R143 : Int32 → Int32 → Int32 → Int32 → xH → Prop) (hR143 : ∀ (v3 : Int32) (v4 : Int32) (v7 : Int32) (v8 : Int32) (h : xH) (H : Heap) (locs : List Loc) (ls : Array Slot), R143 v3 v4 v7 v8 h → XP ad D T h H → va_S (fun q => B0 ≤ q) s.heap H locs → lv_has ls 12 [(0, .ref (ad (0))), (1, .ref (ad (101))), (2, .ref (ad (102))), (3, .int (v3)), (4, .int (v4)), (7, .int (v7)), (8, .int (v8))] → W p l e (headSpec wsL_areFiles ({ frames := 3, cells := 0, slots := 0, locals := 69 } : Room)).room s m ([.ref (ad (0)), .ref (ad (101)), .ref (ad (102))] : List Value).toArray below meth c H locs 0 0 (MQ below (XQ B0 ad D T xei K) ([.ref (ad (0)), .ref (ad (101)), .ref (ad (102))] : List Value).toArray s 0 0 (fun q => B0 ≤ q)) (F0 m 143 ls [])) (R183 : Int32 → Int32 → Int32 → Int32 → Int32 → Int32 → xH → Prop) (hR183 : ∀ (v3 : Int32) (v4 : Int32) (v7 : Int32) (v8 : Int32) (v9 : Int32) (v10 : Int32) (h : xH) (H : Heap) (locs : List Loc) (ls : Array Slot), R183 v3 v4 v7 v8 v9 v10 h → XP ad D T h H → va_S (fun q => B0 ≤ q) s.heap H locs → lv_has ls 12 [(0, .ref (ad (0))), (1, .ref (ad (101))), (2, .ref (ad (102))), (3, .int (v3)), (4, .int (v4)), (7, .int (v7)), (8, .int (v8)), (9, .int (v9)), (10, .int (v10))] → W p l e (headSpec wsL_areFiles ({ frames := 3, cells := 0, slots := 0, locals := 69 } : Room)).room s m ([.ref (ad (0)), .ref (ad (101)), .ref (ad (102))] : List Value).toArray below meth c H locs 0 0 (MQ below (XQ B0 ad D T xei K) ([.ref (ad (0)), .ref (ad (101)), .ref (ad (102))] : List Value).toArray s 0 0 (fun q => B0 ≤ q)) (F0 m 183 ls [])) (v4 : Int32) (v7 : Int32) (v8 : Int32) (v9 : Int32) (v10 : Int32) (v11 : Int32) (s0 : Int32) (h : xH) (H : Heap) (locs : List Loc) (ls : Array Slot), w_L_areFiles_241 K R5 R143 R183 v4 v7 v8 v9 v10 v11 s0 h → XP ad D T h H → va_S (fun q => B0 ≤ q) s.heap H locs → lv_has ls 12 [(0, .ref (ad (0))), (1, .ref (ad (101))), (2, .ref (ad (102))), (4, .int (v4)), (7, .int (v7)), (8, .int (v8)), (9, .int (v9)), (10, .int (v10)), (11, .int (v11))] → W p l e (headSpec wsL_areFiles ({ frames := 3, cells := 0, slots := 0, locals := 69 } : Room)).room s m ([.ref (ad (0)), .ref (ad (101)), .ref (ad (102))] : List Value).toArray below meth c H locs 0 0 (MQ below (XQ B0 ad D T xei K) ([.ref (ad (0)), .ref (ad (101)), .ref (ad (102))] : List Value).toArray s 0 0 (fun q => B0 ≤ q)) (F0 m 241 ls [.int (s0)]) := by
    intro R5 hR5 R143 hR143 R183 hR183 v4 v7 v8 v9 v10 v11 s0 h H locs ls hw hP hS hl 
    unfold w_L_areFiles_241 at hw
    refine lv_istore_n (lv' := [(3, .int (s0)), (0, .ref (ad (0))), (1, .ref (ad (101))), (2, .ref (ad (102))), (4, .int (v4)), (7, .int (v7)), (8, .int (v8)), (9, .int (v9)), (10, .int (v10)), (11, .int (v11))]) hx hb dL_areFiles_241 rfl hl (by decide) rfl (fun ls hl => ?_)
    refine lv_iload hx hb dL_areFiles_242 (lv_at hl 9 rfl) ?_
    refine lv_sipush (v := 10000) hx hb dL_areFiles_244 (by decide) ?_
    refine lv_icmp_ge (tgt := 255) hx hb dL_areFiles_247 (by decide) (fun c43 => ?_) (fun c43 => ?_)
    · have hw := hw.1 c43
      refine lv_iload hx hb dL_areFiles_255 (lv_at hl 5 rfl) ?_
      exact j_257 _ (hR5) _ (hR143) _ (hR183) (s0) (v4) (v8) (v9) (v10) (v7) _ _ _ _ hw hP hS (lv_sub hl [1, 2, 3, 0, 4, 6, 7, 8] rfl)
    · have hw := hw.2 c43
      refine lv_iload hx hb dL_areFiles_250 (lv_at hl 9 rfl) ?_
      refine lv_goto (tgt := 257) hx hb dL_areFiles_252 (by decide) ?_
      exact j_257 _ (hR5) _ (hR143) _ (hR183) (s0) (v4) (v8) (v9) (v10) (v11) _ _ _ _ hw hP hS (lv_sub hl [1, 2, 3, 0, 4, 6, 7, 8] rfl)
  have j_240 : ∀ (R5 : Int32 → Int32 → xH → Prop) (hR5 : ∀ (v3 : Int32) (v4 : Int32) (h : xH) (H : Heap) (locs : List Loc) (ls : Array Slot), R5 v3 v4 h → XP ad D T h H → va_S (fun q => B0 ≤ q) s.heap H locs → lv_has ls 12 [(0, .ref (ad (0))), (1, .ref (ad (101))), (2, .ref (ad (102))), (3, .int (v3)), (4, .int (v4))] → W p l e (headSpec wsL_areFiles ({ frames := 3, cells := 0, slots := 0, locals := 69 } : Room)).room s m ([.ref (ad (0)), .ref (ad (101)), .ref (ad (102))] : List Value).toArray below meth c H locs 0 0 (MQ below (XQ B0 ad D T xei K) ([.ref (ad (0)), .ref (ad (101)), .ref (ad (102))] : List Value).toArray s 0 0 (fun q => B0 ≤ q)) (F0 m 5 ls [])) (R143 : Int32 → Int32 → Int32 → Int32 → xH → Prop) (hR143 : ∀ (v3 : Int32) (v4 : Int32) (v7 : Int32) (v8 : Int32) (h : xH) (H : Heap) (locs : List Loc) (ls : Array Slot), R143 v3 v4 v7 v8 h → XP ad D T h H → va_S (fun q => B0 ≤ q) s.heap H locs → lv_has ls 12 [(0, .ref (ad (0))), (1, .ref (ad (101))), (2, .ref (ad (102))), (3, .int (v3)), (4, .int (v4)), (7, .int (v7)), (8, .int (v8))] → W p l e (headSpec wsL_areFiles ({ frames := 3, cells := 0, slots := 0, locals := 69 } : Room)).room s m ([.ref (ad (0)), .ref (ad (101)), .ref (ad (102))] : List Value).toArray below meth c H locs 0 0 (MQ below (XQ B0 ad D T xei K) ([.ref (ad (0)), .ref (ad (101)), .ref (ad (102))] : List Value).toArray s 0 0 (fun q => B0 ≤ q)) (F0 m 143 ls [])) (R183 : Int32 → Int32 → Int32 → Int32 → Int32 → Int32 → xH → Prop) (hR183 : ∀ (v3 : Int32) (v4 : Int32) (v7 : Int32) (v8 : Int32) (v9 : Int32) (v10 : Int32) (h : xH) (H : Heap) (locs : List Loc) (ls : Array Slot), R183 v3 v4 v7 v8 v9 v10 h → XP ad D T h H → va_S (fun q => B0 ≤ q) s.heap H locs → lv_has ls 12 [(0, .ref (ad (0))), (1, .ref (ad (101))), (2, .ref (ad (102))), (3, .int (v3)), (4, .int (v4)), (7, .int (v7)), (8, .int (v8)), (9, .int (v9)), (10, .int (v10))] → W p l e (headSpec wsL_areFiles ({ frames := 3, cells := 0, slots := 0, locals := 69 } : Room)).room s m ([.ref (ad (0)), .ref (ad (101)), .ref (ad (102))] : List Value).toArray below meth c H locs 0 0 (MQ below (XQ B0 ad D T xei K) ([.ref (ad (0)), .ref (ad (101)), .ref (ad (102))] : List Value).toArray s 0 0 (fun q => B0 ≤ q)) (F0 m 183 ls [])) (v4 : Int32) (v7 : Int32) (v8 : Int32) (v9 : Int32) (v10 : Int32) (v11 : Int32) (h : xH) (H : Heap) (locs : List Loc) (ls : Array Slot), w_L_areFiles_240 K R5 R143 R183 v4 v7 v8 v9 v10 v11 h → XP ad D T h H → va_S (fun q => B0 ≤ q) s.heap H locs → lv_has ls 12 [(0, .ref (ad (0))), (1, .ref (ad (101))), (2, .ref (ad (102))), (4, .int (v4)), (7, .int (v7)), (8, .int (v8)), (9, .int (v9)), (10, .int (v10)), (11, .int (v11))] → W p l e (headSpec wsL_areFiles ({ frames := 3, cells := 0, slots := 0, locals := 69 } : Room)).room s m ([.ref (ad (0)), .ref (ad (101)), .ref (ad (102))] : List Value).toArray below meth c H locs 0 0 (MQ below (XQ B0 ad D T xei K) ([.ref (ad (0)), .ref (ad (101)), .ref (ad (102))] : List Value).toArray s 0 0 (fun q => B0 ≤ q)) (F0 m 240 ls []) := by
    intro R5 hR5 R143 hR143 R183 hR183 v4 v7 v8 v9 v10 v11 h H locs ls hw hP hS hl 
    unfold w_L_areFiles_240 at hw
    refine lv_iconst (v := 0) hx hb dL_areFiles_240 (by decide) ?_
    exact j_241 _ (hR5) _ (hR143) _ (hR183) (v4) (v7) (v8) (v9) (v10) (v11) (0) _ _ _ _ hw hP hS (lv_sub hl [0, 1, 2, 3, 4, 5, 6, 7, 8] rfl)
  have j_236 : ∀ (R5 : Int32 → Int32 → xH → Prop) (hR5 : ∀ (v3 : Int32) (v4 : Int32) (h : xH) (H : Heap) (locs : List Loc) (ls : Array Slot), R5 v3 v4 h → XP ad D T h H → va_S (fun q => B0 ≤ q) s.heap H locs → lv_has ls 12 [(0, .ref (ad (0))), (1, .ref (ad (101))), (2, .ref (ad (102))), (3, .int (v3)), (4, .int (v4))] → W p l e (headSpec wsL_areFiles ({ frames := 3, cells := 0, slots := 0, locals := 69 } : Room)).room s m ([.ref (ad (0)), .ref (ad (101)), .ref (ad (102))] : List Value).toArray below meth c H locs 0 0 (MQ below (XQ B0 ad D T xei K) ([.ref (ad (0)), .ref (ad (101)), .ref (ad (102))] : List Value).toArray s 0 0 (fun q => B0 ≤ q)) (F0 m 5 ls [])) (R143 : Int32 → Int32 → Int32 → Int32 → xH → Prop) (hR143 : ∀ (v3 : Int32) (v4 : Int32) (v7 : Int32) (v8 : Int32) (h : xH) (H : Heap) (locs : List Loc) (ls : Array Slot), R143 v3 v4 v7 v8 h → XP ad D T h H → va_S (fun q => B0 ≤ q) s.heap H locs → lv_has ls 12 [(0, .ref (ad (0))), (1, .ref (ad (101))), (2, .ref (ad (102))), (3, .int (v3)), (4, .int (v4)), (7, .int (v7)), (8, .int (v8))] → W p l e (headSpec wsL_areFiles ({ frames := 3, cells := 0, slots := 0, locals := 69 } : Room)).room s m ([.ref (ad (0)), .ref (ad (101)), .ref (ad (102))] : List Value).toArray below meth c H locs 0 0 (MQ below (XQ B0 ad D T xei K) ([.ref (ad (0)), .ref (ad (101)), .ref (ad (102))] : List Value).toArray s 0 0 (fun q => B0 ≤ q)) (F0 m 143 ls [])) (R183 : Int32 → Int32 → Int32 → Int32 → Int32 → Int32 → xH → Prop) (hR183 : ∀ (v3 : Int32) (v4 : Int32) (v7 : Int32) (v8 : Int32) (v9 : Int32) (v10 : Int32) (h : xH) (H : Heap) (locs : List Loc) (ls : Array Slot), R183 v3 v4 v7 v8 v9 v10 h → XP ad D T h H → va_S (fun q => B0 ≤ q) s.heap H locs → lv_has ls 12 [(0, .ref (ad (0))), (1, .ref (ad (101))), (2, .ref (ad (102))), (3, .int (v3)), (4, .int (v4)), (7, .int (v7)), (8, .int (v8)), (9, .int (v9)), (10, .int (v10))] → W p l e (headSpec wsL_areFiles ({ frames := 3, cells := 0, slots := 0, locals := 69 } : Room)).room s m ([.ref (ad (0)), .ref (ad (101)), .ref (ad (102))] : List Value).toArray below meth c H locs 0 0 (MQ below (XQ B0 ad D T xei K) ([.ref (ad (0)), .ref (ad (101)), .ref (ad (102))] : List Value).toArray s 0 0 (fun q => B0 ≤ q)) (F0 m 183 ls [])) (v4 : Int32) (v7 : Int32) (v8 : Int32) (v9 : Int32) (v10 : Int32) (v11 : Int32) (h : xH) (H : Heap) (locs : List Loc) (ls : Array Slot), w_L_areFiles_236 K R5 R143 R183 v4 v7 v8 v9 v10 v11 h → XP ad D T h H → va_S (fun q => B0 ≤ q) s.heap H locs → lv_has ls 12 [(0, .ref (ad (0))), (1, .ref (ad (101))), (2, .ref (ad (102))), (4, .int (v4)), (7, .int (v7)), (8, .int (v8)), (9, .int (v9)), (10, .int (v10)), (11, .int (v11))] → W p l e (headSpec wsL_areFiles ({ frames := 3, cells := 0, slots := 0, locals := 69 } : Room)).room s m ([.ref (ad (0)), .ref (ad (101)), .ref (ad (102))] : List Value).toArray below meth c H locs 0 0 (MQ below (XQ B0 ad D T xei K) ([.ref (ad (0)), .ref (ad (101)), .ref (ad (102))] : List Value).toArray s 0 0 (fun q => B0 ≤ q)) (F0 m 236 ls []) := by
    intro R5 hR5 R143 hR143 R183 hR183 v4 v7 v8 v9 v10 v11 h H locs ls hw hP hS hl 
    unfold w_L_areFiles_236 at hw
    refine lv_iconst (v := 1) hx hb dL_areFiles_236 (by decide) ?_
    refine lv_goto (tgt := 241) hx hb dL_areFiles_237 (by decide) ?_
    exact j_241 _ (hR5) _ (hR143) _ (hR183) (v4) (v7) (v8) (v9) (v10) (v11) (1) _ _ _ _ hw hP hS (lv_sub hl [0, 1, 2, 3, 4, 5, 6, 7, 8] rfl)
  have j_183 : ∀ (R5 : Int32 → Int32 → xH → Prop) (hR5 : ∀ (v3 : Int32) (v4 : Int32) (h : xH) (H : Heap) (locs : List Loc) (ls : Array Slot), R5 v3 v4 h → XP ad D T h H → va_S (fun q => B0 ≤ q) s.heap H locs → lv_has ls 12 [(0, .ref (ad (0))), (1, .ref (ad (101))), (2, .ref (ad (102))), (3, .int (v3)), (4, .int (v4))] → W p l e (headSpec wsL_areFiles ({ frames := 3, cells := 0, slots := 0, locals := 69 } : Room)).room s m ([.ref (ad (0)), .ref (ad (101)), .ref (ad (102))] : List Value).toArray below meth c H locs 0 0 (MQ below (XQ B0 ad D T xei K) ([.ref (ad (0)), .ref (ad (101)), .ref (ad (102))] : List Value).toArray s 0 0 (fun q => B0 ≤ q)) (F0 m 5 ls [])) (R143 : Int32 → Int32 → Int32 → Int32 → xH → Prop) (hR143 : ∀ (v3 : Int32) (v4 : Int32) (v7 : Int32) (v8 : Int32) (h : xH) (H : Heap) (locs : List Loc) (ls : Array Slot), R143 v3 v4 v7 v8 h → XP ad D T h H → va_S (fun q => B0 ≤ q) s.heap H locs → lv_has ls 12 [(0, .ref (ad (0))), (1, .ref (ad (101))), (2, .ref (ad (102))), (3, .int (v3)), (4, .int (v4)), (7, .int (v7)), (8, .int (v8))] → W p l e (headSpec wsL_areFiles ({ frames := 3, cells := 0, slots := 0, locals := 69 } : Room)).room s m ([.ref (ad (0)), .ref (ad (101)), .ref (ad (102))] : List Value).toArray below meth c H locs 0 0 (MQ below (XQ B0 ad D T xei K) ([.ref (ad (0)), .ref (ad (101)), .ref (ad (102))] : List Value).toArray s 0 0 (fun q => B0 ≤ q)) (F0 m 143 ls [])) (n : Nat) (v3 : Int32) (v4 : Int32) (v7 : Int32) (v8 : Int32) (v9 : Int32) (v10 : Int32) (h : xH) (H : Heap) (locs : List Loc) (ls : Array Slot), w_L_areFiles_183 K R5 R143 n v3 v4 v7 v8 v9 v10 h → XP ad D T h H → va_S (fun q => B0 ≤ q) s.heap H locs → lv_has ls 12 [(0, .ref (ad (0))), (1, .ref (ad (101))), (2, .ref (ad (102))), (3, .int (v3)), (4, .int (v4)), (7, .int (v7)), (8, .int (v8)), (9, .int (v9)), (10, .int (v10))] → W p l e (headSpec wsL_areFiles ({ frames := 3, cells := 0, slots := 0, locals := 69 } : Room)).room s m ([.ref (ad (0)), .ref (ad (101)), .ref (ad (102))] : List Value).toArray below meth c H locs 0 0 (MQ below (XQ B0 ad D T xei K) ([.ref (ad (0)), .ref (ad (101)), .ref (ad (102))] : List Value).toArray s 0 0 (fun q => B0 ≤ q)) (F0 m 183 ls []) := by
    intro R5 hR5 R143 hR143 n
    induction n with
    | zero => intro v3 v4 v7 v8 v9 v10 h H locs ls hw; exact hw.elim
    | succ n9 ih =>
      intro v3 v4 v7 v8 v9 v10 h H locs ls hw hP hS hl 
      rw [w_L_areFiles_183_s] at hw
      refine lv_iload hx hb dL_areFiles_183 (lv_at hl 8 rfl) ?_
      refine lv_iload hx hb dL_areFiles_185 (lv_at hl 7 rfl) ?_
      refine lv_icmp_ge (tgt := 265) hx hb dL_areFiles_187 (by decide) (fun c33 => ?_) (fun c33 => ?_)
      · have hw := hw.1 c33
        obtain ⟨x34, ex34⟩ : ∃ z : Int32, z = v8 + (-1) := ⟨_, rfl⟩
        have hw := hw x34 ex34
        refine lv_iinc (v := x34) (lv' := [(8, .int (x34)), (0, .ref (ad (0))), (1, .ref (ad (101))), (2, .ref (ad (102))), (3, .int (v3)), (4, .int (v4)), (7, .int (v7)), (9, .int (v9)), (10, .int (v10))]) hx hb dL_areFiles_265 hl (k := 6) rfl (by rw [ex34]; rfl) (by decide) rfl (fun ls hl => ?_)
        refine lv_goto (tgt := 143) hx hb dL_areFiles_268 (by decide) ?_
        exact hR143 (v3) (v4) (v7) (x34) _ _ _ _ hw hP hS (lv_sub hl [1, 2, 3, 4, 5, 6, 0] rfl)
      · have hw := hw.2 c33
        refine lv_aload_n hx hb dL_areFiles_190 rfl (lv_at hl 0 rfl) ?_
        refine lv_iload hx hb dL_areFiles_191 (lv_at hl 4 rfl) ?_
        refine lv_iload hx hb dL_areFiles_193 (lv_at hl 6 rfl) ?_
        refine lv_iload hx hb dL_areFiles_195 (lv_at hl 8 rfl) ?_
        refine xg_calli (va_runV (As := [.int (v4), .int (v8), .int (v10)]) (rest := []) ⟨hx, hb, hml, hown, hts⟩ (c_X5_line l hl9 hA v4 v8 v10 hw) (cwV 3 hts gL_areFiles_X5_line rfl rfl rfl (by decide +kernel) ⟨Nat.le_of_ble_eq_true rfl, Nat.le_of_ble_eq_true rfl⟩) (xg_preV hB0 hP hK hN hS xs0 rfl) rfl rfl hl.1 rfl (lv_room (Nat.le_of_ble_eq_true rfl)) dL_areFiles_197 ⟨Nat.le_of_ble_eq_true rfl, Nat.le_of_ble_eq_true rfl⟩) hS (fun r35 h36 H locs hw hP hS => ?_)
        refine lv_istore (lv' := [(11, .int (r35)), (0, .ref (ad (0))), (1, .ref (ad (101))), (2, .ref (ad (102))), (3, .int (v3)), (4, .int (v4)), (7, .int (v7)), (8, .int (v8)), (9, .int (v9)), (10, .int (v10))]) hx hb dL_areFiles_200 hl (by decide) rfl (fun ls hl => ?_)
        refine lv_iload_n hx hb dL_areFiles_202 rfl (lv_at hl 4 rfl) ?_
        refine lv_if_eq (tgt := 240) hx hb dL_areFiles_203 (by decide) (fun c37 => ?_) (fun c37 => ?_)
        · have hw := hw.1 c37
          exact j_240 _ (hR5) _ (hR143) _ (ih) (v4) (v7) (v8) (v9) (v10) (r35) _ _ _ _ hw hP hS (lv_sub hl [1, 2, 3, 5, 6, 7, 8, 9, 0] rfl)
        · have hw := hw.2 c37
          refine lv_iload hx hb dL_areFiles_206 (lv_at hl 0 rfl) ?_
          refine lv_sipush (v := 10000) hx hb dL_areFiles_208 (by decide) ?_
          refine lv_icmp_ge (tgt := 236) hx hb dL_areFiles_211 (by decide) (fun c38 => ?_) (fun c38 => ?_)
          · have hw := hw.1 c38
            exact j_236 _ (hR5) _ (hR143) _ (ih) (v4) (v7) (v8) (v9) (v10) (r35) _ _ _ _ hw hP hS (lv_sub hl [1, 2, 3, 5, 6, 7, 8, 9, 0] rfl)
          · have hw := hw.2 c38
            refine lv_iload hx hb dL_areFiles_214 (lv_at hl 0 rfl) ?_
            refine lv_iload hx hb dL_areFiles_216 (lv_at hl 6 rfl) ?_
            refine lv_icmp_le (tgt := 240) hx hb dL_areFiles_218 (by decide) (fun c39 => ?_) (fun c39 => ?_)
            · have hw := hw.1 c39
              exact j_240 _ (hR5) _ (hR143) _ (ih) (v4) (v7) (v8) (v9) (v10) (r35) _ _ _ _ hw hP hS (lv_sub hl [1, 2, 3, 5, 6, 7, 8, 9, 0] rfl)
            · have hw := hw.2 c39
              refine lv_aload_n hx hb dL_areFiles_221 rfl (lv_at hl 1 rfl) ?_
              refine lv_iload hx hb dL_areFiles_222 (lv_at hl 0 rfl) ?_
              refine xg_calli (va_runV (As := [.int (r35)]) (rest := []) ⟨hx, hb, hml, hown, hts⟩ (c_X5_targetsOf l hl9 hA r35 hw) (cwV 1 hts gL_areFiles_X5_targetsOf rfl rfl rfl (by decide +kernel) ⟨Nat.le_of_ble_eq_true rfl, Nat.le_of_ble_eq_true rfl⟩) (xg_preV hB0 hP hK hN hS xs0 rfl) rfl rfl hl.1 rfl (lv_room (Nat.le_of_ble_eq_true rfl)) dL_areFiles_224 ⟨Nat.le_of_ble_eq_true rfl, Nat.le_of_ble_eq_true rfl⟩) hS (fun r40 h41 H locs hw hP hS => ?_)
              refine lv_iload hx hb dL_areFiles_227 (lv_at hl 5 rfl) ?_
              refine lv_ishr hx hb dL_areFiles_229 ?_
              refine lv_iconst (v := 1) hx hb dL_areFiles_230 (by decide) ?_
              refine lv_iand hx hb dL_areFiles_231 ?_
              refine lv_iconst (v := 1) hx hb dL_areFiles_232 (by decide) ?_
              refine lv_icmp_ne (tgt := 240) hx hb dL_areFiles_233 (by decide) (fun c42 => ?_) (fun c42 => ?_)
              · have hw := hw.2 c42
                exact j_240 _ (hR5) _ (hR143) _ (ih) (v4) (v7) (v8) (v9) (v10) (r35) _ _ _ _ hw hP hS (lv_sub hl [1, 2, 3, 5, 6, 7, 8, 9, 0] rfl)
              · have hw := hw.1 c42
                exact j_236 _ (hR5) _ (hR143) _ (ih) (v4) (v7) (v8) (v9) (v10) (r35) _ _ _ _ hw hP hS (lv_sub hl [1, 2, 3, 5, 6, 7, 8, 9, 0] rfl)
  have j_179 : ∀ (R5 : Int32 → Int32 → xH → Prop) (hR5 : ∀ (v3 : Int32) (v4 : Int32) (h : xH) (H : Heap) (locs : List Loc) (ls : Array Slot), R5 v3 v4 h → XP ad D T h H → va_S (fun q => B0 ≤ q) s.heap H locs → lv_has ls 12 [(0, .ref (ad (0))), (1, .ref (ad (101))), (2, .ref (ad (102))), (3, .int (v3)), (4, .int (v4))] → W p l e (headSpec wsL_areFiles ({ frames := 3, cells := 0, slots := 0, locals := 69 } : Room)).room s m ([.ref (ad (0)), .ref (ad (101)), .ref (ad (102))] : List Value).toArray below meth c H locs 0 0 (MQ below (XQ B0 ad D T xei K) ([.ref (ad (0)), .ref (ad (101)), .ref (ad (102))] : List Value).toArray s 0 0 (fun q => B0 ≤ q)) (F0 m 5 ls [])) (R143 : Int32 → Int32 → Int32 → Int32 → xH → Prop) (hR143 : ∀ (v3 : Int32) (v4 : Int32) (v7 : Int32) (v8 : Int32) (h : xH) (H : Heap) (locs : List Loc) (ls : Array Slot), R143 v3 v4 v7 v8 h → XP ad D T h H → va_S (fun q => B0 ≤ q) s.heap H locs → lv_has ls 12 [(0, .ref (ad (0))), (1, .ref (ad (101))), (2, .ref (ad (102))), (3, .int (v3)), (4, .int (v4)), (7, .int (v7)), (8, .int (v8))] → W p l e (headSpec wsL_areFiles ({ frames := 3, cells := 0, slots := 0, locals := 69 } : Room)).room s m ([.ref (ad (0)), .ref (ad (101)), .ref (ad (102))] : List Value).toArray below meth c H locs 0 0 (MQ below (XQ B0 ad D T xei K) ([.ref (ad (0)), .ref (ad (101)), .ref (ad (102))] : List Value).toArray s 0 0 (fun q => B0 ≤ q)) (F0 m 143 ls [])) (v4 : Int32) (v7 : Int32) (v8 : Int32) (v9 : Int32) (s0 : Int32) (h : xH) (H : Heap) (locs : List Loc) (ls : Array Slot), w_L_areFiles_179 K R5 R143 v4 v7 v8 v9 s0 h → XP ad D T h H → va_S (fun q => B0 ≤ q) s.heap H locs → lv_has ls 12 [(0, .ref (ad (0))), (1, .ref (ad (101))), (2, .ref (ad (102))), (4, .int (v4)), (7, .int (v7)), (8, .int (v8)), (9, .int (v9))] → W p l e (headSpec wsL_areFiles ({ frames := 3, cells := 0, slots := 0, locals := 69 } : Room)).room s m ([.ref (ad (0)), .ref (ad (101)), .ref (ad (102))] : List Value).toArray below meth c H locs 0 0 (MQ below (XQ B0 ad D T xei K) ([.ref (ad (0)), .ref (ad (101)), .ref (ad (102))] : List Value).toArray s 0 0 (fun q => B0 ≤ q)) (F0 m 179 ls [.int (s0)]) := by
    intro R5 hR5 R143 hR143 v4 v7 v8 v9 s0 h H locs ls hw hP hS hl 
    unfold w_L_areFiles_179 at hw
    refine lv_istore_n (lv' := [(3, .int (s0)), (0, .ref (ad (0))), (1, .ref (ad (101))), (2, .ref (ad (102))), (4, .int (v4)), (7, .int (v7)), (8, .int (v8)), (9, .int (v9))]) hx hb dL_areFiles_179 rfl hl (by decide) rfl (fun ls hl => ?_)
    refine lv_iconst (v := 0) hx hb dL_areFiles_180 (by decide) ?_
    refine lv_istore (lv' := [(10, .int (0)), (3, .int (s0)), (0, .ref (ad (0))), (1, .ref (ad (101))), (2, .ref (ad (102))), (4, .int (v4)), (7, .int (v7)), (8, .int (v8)), (9, .int (v9))]) hx hb dL_areFiles_181 hl (by decide) rfl (fun ls hl => ?_)
    obtain ⟨n9, hw⟩ := hw
    exact j_183 _ (hR5) _ (hR143) n9 (s0) (v4) (v7) (v8) (v9) (0) _ _ _ _ hw hP hS (lv_sub hl [2, 3, 4, 1, 5, 6, 7, 8, 0] rfl)
  have j_174 : ∀ (R5 : Int32 → Int32 → xH → Prop) (hR5 : ∀ (v3 : Int32) (v4 : Int32) (h : xH) (H : Heap) (locs : List Loc) (ls : Array Slot), R5 v3 v4 h → XP ad D T h H → va_S (fun q => B0 ≤ q) s.heap H locs → lv_has ls 12 [(0, .ref (ad (0))), (1, .ref (ad (101))), (2, .ref (ad (102))), (3, .int (v3)), (4, .int (v4))] → W p l e (headSpec wsL_areFiles ({ frames := 3, cells := 0, slots := 0, locals := 69 } : Room)).room s m ([.ref (ad (0)), .ref (ad (101)), .ref (ad (102))] : List Value).toArray below meth c H locs 0 0 (MQ below (XQ B0 ad D T xei K) ([.ref (ad (0)), .ref (ad (101)), .ref (ad (102))] : List Value).toArray s 0 0 (fun q => B0 ≤ q)) (F0 m 5 ls [])) (R143 : Int32 → Int32 → Int32 → Int32 → xH → Prop) (hR143 : ∀ (v3 : Int32) (v4 : Int32) (v7 : Int32) (v8 : Int32) (h : xH) (H : Heap) (locs : List Loc) (ls : Array Slot), R143 v3 v4 v7 v8 h → XP ad D T h H → va_S (fun q => B0 ≤ q) s.heap H locs → lv_has ls 12 [(0, .ref (ad (0))), (1, .ref (ad (101))), (2, .ref (ad (102))), (3, .int (v3)), (4, .int (v4)), (7, .int (v7)), (8, .int (v8))] → W p l e (headSpec wsL_areFiles ({ frames := 3, cells := 0, slots := 0, locals := 69 } : Room)).room s m ([.ref (ad (0)), .ref (ad (101)), .ref (ad (102))] : List Value).toArray below meth c H locs 0 0 (MQ below (XQ B0 ad D T xei K) ([.ref (ad (0)), .ref (ad (101)), .ref (ad (102))] : List Value).toArray s 0 0 (fun q => B0 ≤ q)) (F0 m 143 ls [])) (v4 : Int32) (v7 : Int32) (v8 : Int32) (v9 : Int32) (h : xH) (H : Heap) (locs : List Loc) (ls : Array Slot), w_L_areFiles_174 K R5 R143 v4 v7 v8 v9 h → XP ad D T h H → va_S (fun q => B0 ≤ q) s.heap H locs → lv_has ls 12 [(0, .ref (ad (0))), (1, .ref (ad (101))), (2, .ref (ad (102))), (4, .int (v4)), (7, .int (v7)), (8, .int (v8)), (9, .int (v9))] → W p l e (headSpec wsL_areFiles ({ frames := 3, cells := 0, slots := 0, locals := 69 } : Room)).room s m ([.ref (ad (0)), .ref (ad (101)), .ref (ad (102))] : List Value).toArray below meth c H locs 0 0 (MQ below (XQ B0 ad D T xei K) ([.ref (ad (0)), .ref (ad (101)), .ref (ad (102))] : List Value).toArray s 0 0 (fun q => B0 ≤ q)) (F0 m 174 ls []) := by
    intro R5 hR5 R143 hR143 v4 v7 v8 v9 h H locs ls hw hP hS hl 
    unfold w_L_areFiles_174 at hw
    refine lv_iconst (v := 1) hx hb dL_areFiles_174 (by decide) ?_
    refine lv_goto (tgt := 179) hx hb dL_areFiles_175 (by decide) ?_
    exact j_179 _ (hR5) _ (hR143) (v4) (v7) (v8) (v9) (1) _ _ _ _ hw hP hS (lv_sub hl [0, 1, 2, 3, 4, 5, 6] rfl)
  have j_143 : ∀ (R5 : Int32 → Int32 → xH → Prop) (hR5 : ∀ (v3 : Int32) (v4 : Int32) (h : xH) (H : Heap) (locs : List Loc) (ls : Array Slot), R5 v3 v4 h → XP ad D T h H → va_S (fun q => B0 ≤ q) s.heap H locs → lv_has ls 12 [(0, .ref (ad (0))), (1, .ref (ad (101))), (2, .ref (ad (102))), (3, .int (v3)), (4, .int (v4))] → W p l e (headSpec wsL_areFiles ({ frames := 3, cells := 0, slots := 0, locals := 69 } : Room)).room s m ([.ref (ad (0)), .ref (ad (101)), .ref (ad (102))] : List Value).toArray below meth c H locs 0 0 (MQ below (XQ B0 ad D T xei K) ([.ref (ad (0)), .ref (ad (101)), .ref (ad (102))] : List Value).toArray s 0 0 (fun q => B0 ≤ q)) (F0 m 5 ls [])) (n : Nat) (v3 : Int32) (v4 : Int32) (v7 : Int32) (v8 : Int32) (h : xH) (H : Heap) (locs : List Loc) (ls : Array Slot), w_L_areFiles_143 K R5 n v3 v4 v7 v8 h → XP ad D T h H → va_S (fun q => B0 ≤ q) s.heap H locs → lv_has ls 12 [(0, .ref (ad (0))), (1, .ref (ad (101))), (2, .ref (ad (102))), (3, .int (v3)), (4, .int (v4)), (7, .int (v7)), (8, .int (v8))] → W p l e (headSpec wsL_areFiles ({ frames := 3, cells := 0, slots := 0, locals := 69 } : Room)).room s m ([.ref (ad (0)), .ref (ad (101)), .ref (ad (102))] : List Value).toArray below meth c H locs 0 0 (MQ below (XQ B0 ad D T xei K) ([.ref (ad (0)), .ref (ad (101)), .ref (ad (102))] : List Value).toArray s 0 0 (fun q => B0 ≤ q)) (F0 m 143 ls []) := by
    intro R5 hR5 n
    induction n with
    | zero => intro v3 v4 v7 v8 h H locs ls hw; exact hw.elim
    | succ n9 ih =>
      intro v3 v4 v7 v8 h H locs ls hw hP hS hl 
      rw [w_L_areFiles_143_s] at hw
      refine lv_iload hx hb dL_areFiles_143 (lv_at hl 6 rfl) ?_
      refine lv_iconst (v := (-1)) hx hb dL_areFiles_145 (by decide) ?_
      refine lv_icmp_lt (tgt := 271) hx hb dL_areFiles_146 (by decide) (fun c26 => ?_) (fun c26 => ?_)
      · have hw := hw.1 c26
        exact j_271 _ (hR5) (v3) (v4) _ _ _ _ hw hP hS (lv_sub hl [0, 1, 2, 3, 4] rfl)
      · have hw := hw.2 c26
        refine lv_iload_n hx hb dL_areFiles_149 rfl (lv_at hl 3 rfl) ?_
        refine lv_if_eq (tgt := 271) hx hb dL_areFiles_150 (by decide) (fun c27 => ?_) (fun c27 => ?_)
        · have hw := hw.1 c27
          exact j_271 _ (hR5) (v3) (v4) _ _ _ _ hw hP hS (lv_sub hl [0, 1, 2, 3, 4] rfl)
        · have hw := hw.2 c27
          refine lv_aload_n hx hb dL_areFiles_153 rfl (lv_at hl 0 rfl) ?_
          refine lv_iload hx hb dL_areFiles_154 (lv_at hl 4 rfl) ?_
          refine lv_iload hx hb dL_areFiles_156 (lv_at hl 6 rfl) ?_
          refine xg_calli (va_runV (As := [.int (v4), .int (v8)]) (rest := []) ⟨hx, hb, hml, hown, hts⟩ (c_X5_lines l hl9 hA v4 v8 hw) (cwV 2 hts gL_areFiles_X5_lines rfl rfl rfl (by decide +kernel) ⟨Nat.le_of_ble_eq_true rfl, Nat.le_of_ble_eq_true rfl⟩) (xg_preV hB0 hP hK hN hS xs0 rfl) rfl rfl hl.1 rfl (lv_room (Nat.le_of_ble_eq_true rfl)) dL_areFiles_158 ⟨Nat.le_of_ble_eq_true rfl, Nat.le_of_ble_eq_true rfl⟩) hS (fun r28 h29 H locs hw hP hS => ?_)
          refine lv_istore (lv' := [(9, .int (r28)), (0, .ref (ad (0))), (1, .ref (ad (101))), (2, .ref (ad (102))), (3, .int (v3)), (4, .int (v4)), (7, .int (v7)), (8, .int (v8))]) hx hb dL_areFiles_161 hl (by decide) rfl (fun ls hl => ?_)
          refine lv_iload hx hb dL_areFiles_163 (lv_at hl 0 rfl) ?_
          refine lv_if_gt (tgt := 174) hx hb dL_areFiles_165 (by decide) (fun c30 => ?_) (fun c30 => ?_)
          · have hw := hw.1 c30
            exact j_174 _ (hR5) _ (ih) (v4) (v7) (v8) (r28) _ _ _ _ hw hP hS (lv_sub hl [1, 2, 3, 5, 6, 7, 0] rfl)
          · have hw := hw.2 c30
            refine lv_iload hx hb dL_areFiles_168 (lv_at hl 7 rfl) ?_
            refine lv_iconst (v := (-1)) hx hb dL_areFiles_170 (by decide) ?_
            refine lv_icmp_ne (tgt := 178) hx hb dL_areFiles_171 (by decide) (fun c31 => ?_) (fun c31 => ?_)
            · have hw := hw.2 c31
              refine lv_iconst (v := 0) hx hb dL_areFiles_178 (by decide) ?_
              exact j_179 _ (hR5) _ (ih) (v4) (v7) (v8) (r28) (0) _ _ _ _ hw hP hS (lv_sub hl [1, 2, 3, 5, 6, 7, 0] rfl)
            · have hw := hw.1 c31
              exact j_174 _ (hR5) _ (ih) (v4) (v7) (v8) (r28) _ _ _ _ hw hP hS (lv_sub hl [1, 2, 3, 5, 6, 7, 0] rfl)
  have j_129 : ∀ (R5 : Int32 → Int32 → xH → Prop) (hR5 : ∀ (v3 : Int32) (v4 : Int32) (h : xH) (H : Heap) (locs : List Loc) (ls : Array Slot), R5 v3 v4 h → XP ad D T h H → va_S (fun q => B0 ≤ q) s.heap H locs → lv_has ls 12 [(0, .ref (ad (0))), (1, .ref (ad (101))), (2, .ref (ad (102))), (3, .int (v3)), (4, .int (v4))] → W p l e (headSpec wsL_areFiles ({ frames := 3, cells := 0, slots := 0, locals := 69 } : Room)).room s m ([.ref (ad (0)), .ref (ad (101)), .ref (ad (102))] : List Value).toArray below meth c H locs 0 0 (MQ below (XQ B0 ad D T xei K) ([.ref (ad (0)), .ref (ad (101)), .ref (ad (102))] : List Value).toArray s 0 0 (fun q => B0 ≤ q)) (F0 m 5 ls [])) (v4 : Int32) (s0 : Int32) (h : xH) (H : Heap) (locs : List Loc) (ls : Array Slot), w_L_areFiles_129 K R5 v4 s0 h → XP ad D T h H → va_S (fun q => B0 ≤ q) s.heap H locs → lv_has ls 12 [(0, .ref (ad (0))), (1, .ref (ad (101))), (2, .ref (ad (102))), (4, .int (v4))] → W p l e (headSpec wsL_areFiles ({ frames := 3, cells := 0, slots := 0, locals := 69 } : Room)).room s m ([.ref (ad (0)), .ref (ad (101)), .ref (ad (102))] : List Value).toArray below meth c H locs 0 0 (MQ below (XQ B0 ad D T xei K) ([.ref (ad (0)), .ref (ad (101)), .ref (ad (102))] : List Value).toArray s 0 0 (fun q => B0 ≤ q)) (F0 m 129 ls [.int (s0)]) := by
    intro R5 hR5 v4 s0 h H locs ls hw hP hS hl 
    unfold w_L_areFiles_129 at hw
    refine lv_istore_n (lv' := [(3, .int (s0)), (0, .ref (ad (0))), (1, .ref (ad (101))), (2, .ref (ad (102))), (4, .int (v4))]) hx hb dL_areFiles_129 rfl hl (by decide) rfl (fun ls hl => ?_)
    refine lv_iconst (v := (-1)) hx hb dL_areFiles_130 (by decide) ?_
    refine lv_istore (lv' := [(7, .int ((-1))), (3, .int (s0)), (0, .ref (ad (0))), (1, .ref (ad (101))), (2, .ref (ad (102))), (4, .int (v4))]) hx hb dL_areFiles_131 hl (by decide) rfl (fun ls hl => ?_)
    refine lv_aload_n hx hb dL_areFiles_133 rfl (lv_at hl 2 rfl) ?_
    refine lv_iload hx hb dL_areFiles_134 (lv_at hl 5 rfl) ?_
    refine xg_calli (va_runV (As := [.int (v4)]) (rest := []) ⟨hx, hb, hml, hown, hts⟩ (c_X5_generations l hl9 hA v4 hw) (cwV 1 hts gL_areFiles_X5_generations rfl rfl rfl (by decide +kernel) ⟨Nat.le_of_ble_eq_true rfl, Nat.le_of_ble_eq_true rfl⟩) (xg_preV hB0 hP hK hN hS xs0 rfl) rfl rfl hl.1 rfl (lv_room (Nat.le_of_ble_eq_true rfl)) dL_areFiles_136 ⟨Nat.le_of_ble_eq_true rfl, Nat.le_of_ble_eq_true rfl⟩) hS (fun r23 h24 H locs hw hP hS => ?_)
    refine lv_iconst (v := 1) hx hb dL_areFiles_139 (by decide) ?_
    refine lv_isub hx hb dL_areFiles_140 ?_
    refine lv_topi (fun x25 ex25 => ?_)
    have hw := hw x25 ex25
    refine lv_istore (lv' := [(8, .int (x25)), (7, .int ((-1))), (3, .int (s0)), (0, .ref (ad (0))), (1, .ref (ad (101))), (2, .ref (ad (102))), (4, .int (v4))]) hx hb dL_areFiles_141 hl (by decide) rfl (fun ls hl => ?_)
    obtain ⟨n9, hw⟩ := hw
    exact j_143 _ (hR5) n9 (s0) (v4) ((-1)) (x25) _ _ _ _ hw hP hS (lv_sub hl [3, 4, 5, 2, 6, 1, 0] rfl)
  have j_128 : ∀ (R5 : Int32 → Int32 → xH → Prop) (hR5 : ∀ (v3 : Int32) (v4 : Int32) (h : xH) (H : Heap) (locs : List Loc) (ls : Array Slot), R5 v3 v4 h → XP ad D T h H → va_S (fun q => B0 ≤ q) s.heap H locs → lv_has ls 12 [(0, .ref (ad (0))), (1, .ref (ad (101))), (2, .ref (ad (102))), (3, .int (v3)), (4, .int (v4))] → W p l e (headSpec wsL_areFiles ({ frames := 3, cells := 0, slots := 0, locals := 69 } : Room)).room s m ([.ref (ad (0)), .ref (ad (101)), .ref (ad (102))] : List Value).toArray below meth c H locs 0 0 (MQ below (XQ B0 ad D T xei K) ([.ref (ad (0)), .ref (ad (101)), .ref (ad (102))] : List Value).toArray s 0 0 (fun q => B0 ≤ q)) (F0 m 5 ls [])) (v4 : Int32) (h : xH) (H : Heap) (locs : List Loc) (ls : Array Slot), w_L_areFiles_128 K R5 v4 h → XP ad D T h H → va_S (fun q => B0 ≤ q) s.heap H locs → lv_has ls 12 [(0, .ref (ad (0))), (1, .ref (ad (101))), (2, .ref (ad (102))), (4, .int (v4))] → W p l e (headSpec wsL_areFiles ({ frames := 3, cells := 0, slots := 0, locals := 69 } : Room)).room s m ([.ref (ad (0)), .ref (ad (101)), .ref (ad (102))] : List Value).toArray below meth c H locs 0 0 (MQ below (XQ B0 ad D T xei K) ([.ref (ad (0)), .ref (ad (101)), .ref (ad (102))] : List Value).toArray s 0 0 (fun q => B0 ≤ q)) (F0 m 128 ls []) := by
    intro R5 hR5 v4 h H locs ls hw hP hS hl 
    unfold w_L_areFiles_128 at hw
    refine lv_iconst (v := 0) hx hb dL_areFiles_128 (by decide) ?_
    exact j_129 _ (hR5) (v4) (0) _ _ _ _ hw hP hS (lv_sub hl [0, 1, 2, 3] rfl)
  have j_79 : ∀ (R5 : Int32 → Int32 → xH → Prop) (hR5 : ∀ (v3 : Int32) (v4 : Int32) (h : xH) (H : Heap) (locs : List Loc) (ls : Array Slot), R5 v3 v4 h → XP ad D T h H → va_S (fun q => B0 ≤ q) s.heap H locs → lv_has ls 12 [(0, .ref (ad (0))), (1, .ref (ad (101))), (2, .ref (ad (102))), (3, .int (v3)), (4, .int (v4))] → W p l e (headSpec wsL_areFiles ({ frames := 3, cells := 0, slots := 0, locals := 69 } : Room)).room s m ([.ref (ad (0)), .ref (ad (101)), .ref (ad (102))] : List Value).toArray below meth c H locs 0 0 (MQ below (XQ B0 ad D T xei K) ([.ref (ad (0)), .ref (ad (101)), .ref (ad (102))] : List Value).toArray s 0 0 (fun q => B0 ≤ q)) (F0 m 5 ls [])) (R30 : Int32 → Int32 → Int32 → Int32 → xH → Prop) (hR30 : ∀ (v4 : Int32) (v5 : Int32) (v6 : Int32) (v7 : Int32) (h : xH) (H : Heap) (locs : List Loc) (ls : Array Slot), R30 v4 v5 v6 v7 h → XP ad D T h H → va_S (fun q => B0 ≤ q) s.heap H locs → lv_has ls 12 [(0, .ref (ad (0))), (1, .ref (ad (101))), (2, .ref (ad (102))), (4, .int (v4)), (5, .int (v5)), (6, .int (v6)), (7, .int (v7))] → W p l e (headSpec wsL_areFiles ({ frames := 3, cells := 0, slots := 0, locals := 69 } : Room)).room s m ([.ref (ad (0)), .ref (ad (101)), .ref (ad (102))] : List Value).toArray below meth c H locs 0 0 (MQ below (XQ B0 ad D T xei K) ([.ref (ad (0)), .ref (ad (101)), .ref (ad (102))] : List Value).toArray s 0 0 (fun q => B0 ≤ q)) (F0 m 30 ls [])) (v4 : Int32) (v6 : Int32) (v7 : Int32) (s0 : Int32) (s1 : Int32) (h : xH) (H : Heap) (locs : List Loc) (ls : Array Slot), w_L_areFiles_79 K R5 R30 v4 v6 v7 s0 s1 h → XP ad D T h H → va_S (fun q => B0 ≤ q) s.heap H locs → lv_has ls 12 [(0, .ref (ad (0))), (1, .ref (ad (101))), (2, .ref (ad (102))), (4, .int (v4)), (6, .int (v6)), (7, .int (v7))] → W p l e (headSpec wsL_areFiles ({ frames := 3, cells := 0, slots := 0, locals := 69 } : Room)).room s m ([.ref (ad (0)), .ref (ad (101)), .ref (ad (102))] : List Value).toArray below meth c H locs 0 0 (MQ below (XQ B0 ad D T xei K) ([.ref (ad (0)), .ref (ad (101)), .ref (ad (102))] : List Value).toArray s 0 0 (fun q => B0 ≤ q)) (F0 m 79 ls [.int (s1), .int (s0)]) := by
    intro R5 hR5 R30 hR30 v4 v6 v7 s0 s1 h H locs ls hw hP hS hl 
    unfold w_L_areFiles_79 at hw
    refine lv_iadd hx hb dL_areFiles_79 ?_
    refine lv_topi (fun x45 ex45 => ?_)
    have hw := hw x45 ex45
    refine lv_istore (lv' := [(5, .int (x45)), (0, .ref (ad (0))), (1, .ref (ad (101))), (2, .ref (ad (102))), (4, .int (v4)), (6, .int (v6)), (7, .int (v7))]) hx hb dL_areFiles_80 hl (by decide) rfl (fun ls hl => ?_)
    obtain ⟨x46, ex46⟩ : ∃ z : Int32, z = v7 + 1 := ⟨_, rfl⟩
    have hw := hw x46 ex46
    refine lv_iinc (v := x46) (lv' := [(7, .int (x46)), (5, .int (x45)), (0, .ref (ad (0))), (1, .ref (ad (101))), (2, .ref (ad (102))), (4, .int (v4)), (6, .int (v6))]) hx hb dL_areFiles_82 hl (k := 6) rfl (by rw [ex46]; rfl) (by decide) rfl (fun ls hl => ?_)
    refine lv_goto (tgt := 30) hx hb dL_areFiles_85 (by decide) ?_
    exact hR30 (v4) (x45) (v6) (x46) _ _ _ _ hw hP hS (lv_sub hl [2, 3, 4, 5, 1, 6, 0] rfl)
  have j_30 : ∀ (R5 : Int32 → Int32 → xH → Prop) (hR5 : ∀ (v3 : Int32) (v4 : Int32) (h : xH) (H : Heap) (locs : List Loc) (ls : Array Slot), R5 v3 v4 h → XP ad D T h H → va_S (fun q => B0 ≤ q) s.heap H locs → lv_has ls 12 [(0, .ref (ad (0))), (1, .ref (ad (101))), (2, .ref (ad (102))), (3, .int (v3)), (4, .int (v4))] → W p l e (headSpec wsL_areFiles ({ frames := 3, cells := 0, slots := 0, locals := 69 } : Room)).room s m ([.ref (ad (0)), .ref (ad (101)), .ref (ad (102))] : List Value).toArray below meth c H locs 0 0 (MQ below (XQ B0 ad D T xei K) ([.ref (ad (0)), .ref (ad (101)), .ref (ad (102))] : List Value).toArray s 0 0 (fun q => B0 ≤ q)) (F0 m 5 ls [])) (n : Nat) (v4 : Int32) (v5 : Int32) (v6 : Int32) (v7 : Int32) (h : xH) (H : Heap) (locs : List Loc) (ls : Array Slot), w_L_areFiles_30 K R5 n v4 v5 v6 v7 h → XP ad D T h H → va_S (fun q => B0 ≤ q) s.heap H locs → lv_has ls 12 [(0, .ref (ad (0))), (1, .ref (ad (101))), (2, .ref (ad (102))), (4, .int (v4)), (5, .int (v5)), (6, .int (v6)), (7, .int (v7))] → W p l e (headSpec wsL_areFiles ({ frames := 3, cells := 0, slots := 0, locals := 69 } : Room)).room s m ([.ref (ad (0)), .ref (ad (101)), .ref (ad (102))] : List Value).toArray below meth c H locs 0 0 (MQ below (XQ B0 ad D T xei K) ([.ref (ad (0)), .ref (ad (101)), .ref (ad (102))] : List Value).toArray s 0 0 (fun q => B0 ≤ q)) (F0 m 30 ls []) := by
    intro R5 hR5 n
    induction n with
    | zero => intro v4 v5 v6 v7 h H locs ls hw; exact hw.elim
    | succ n9 ih =>
      intro v4 v5 v6 v7 h H locs ls hw hP hS hl 
      rw [w_L_areFiles_30_s] at hw
      refine lv_iload hx hb dL_areFiles_30 (lv_at hl 6 rfl) ?_
      refine lv_iload hx hb dL_areFiles_32 (lv_at hl 5 rfl) ?_
      refine lv_icmp_ge (tgt := 88) hx hb dL_areFiles_34 (by decide) (fun c7 => ?_) (fun c7 => ?_)
      · have hw := hw.1 c7
        refine lv_aload_n hx hb dL_areFiles_88 rfl (lv_at hl 0 rfl) ?_
        refine lv_iload hx hb dL_areFiles_89 (lv_at hl 3 rfl) ?_
        refine xg_calli (va_runV (As := [.int (v4)]) (rest := []) ⟨hx, hb, hml, hown, hts⟩ (c_X5_size l hl9 hA v4 hw) (cwV 1 hts gL_areFiles_X5_size rfl rfl rfl (by decide +kernel) ⟨Nat.le_of_ble_eq_true rfl, Nat.le_of_ble_eq_true rfl⟩) (xg_preV hB0 hP hK hN hS xs0 rfl) rfl rfl hl.1 rfl (lv_room (Nat.le_of_ble_eq_true rfl)) dL_areFiles_91 ⟨Nat.le_of_ble_eq_true rfl, Nat.le_of_ble_eq_true rfl⟩) hS (fun r8 h9 H locs hw hP hS => ?_)
        refine lv_iload hx hb dL_areFiles_94 (lv_at hl 4 rfl) ?_
        refine lv_icmp_ne (tgt := 128) hx hb dL_areFiles_96 (by decide) (fun c10 => ?_) (fun c10 => ?_)
        · have hw := hw.2 c10
          exact j_128 _ (hR5) (v4) _ _ _ _ hw hP hS (lv_sub hl [0, 1, 2, 3] rfl)
        · have hw := hw.1 c10
          refine lv_aload_n hx hb dL_areFiles_99 rfl (lv_at hl 0 rfl) ?_
          refine lv_iload hx hb dL_areFiles_100 (lv_at hl 3 rfl) ?_
          refine xg_calli (va_runV (As := [.int (v4)]) (rest := []) ⟨hx, hb, hml, hown, hts⟩ (c_X5_generations l hl9 hA v4 hw) (cwV 1 hts gL_areFiles_X5_generations rfl rfl rfl (by decide +kernel) ⟨Nat.le_of_ble_eq_true rfl, Nat.le_of_ble_eq_true rfl⟩) (xg_preV hB0 hP hK hN hS xs0 rfl) rfl rfl hl.1 rfl (lv_room (Nat.le_of_ble_eq_true rfl)) dL_areFiles_102 ⟨Nat.le_of_ble_eq_true rfl, Nat.le_of_ble_eq_true rfl⟩) hS (fun r11 h12 H locs hw hP hS => ?_)
          refine lv_if_lt (tgt := 128) hx hb dL_areFiles_105 (by decide) (fun c13 => ?_) (fun c13 => ?_)
          · have hw := hw.1 c13
            exact j_128 _ (hR5) (v4) _ _ _ _ hw hP hS (lv_sub hl [0, 1, 2, 3] rfl)
          · have hw := hw.2 c13
            refine lv_aload_n hx hb dL_areFiles_108 rfl (lv_at hl 0 rfl) ?_
            refine lv_iload hx hb dL_areFiles_109 (lv_at hl 3 rfl) ?_
            refine xg_calli (va_runV (As := [.int (v4)]) (rest := []) ⟨hx, hb, hml, hown, hts⟩ (c_X5_generations l hl9 hA v4 hw) (cwV 1 hts gL_areFiles_X5_generations rfl rfl rfl (by decide +kernel) ⟨Nat.le_of_ble_eq_true rfl, Nat.le_of_ble_eq_true rfl⟩) (xg_preV hB0 hP hK hN hS xs0 rfl) rfl rfl hl.1 rfl (lv_room (Nat.le_of_ble_eq_true rfl)) dL_areFiles_111 ⟨Nat.le_of_ble_eq_true rfl, Nat.le_of_ble_eq_true rfl⟩) hS (fun r14 h15 H locs hw hP hS => ?_)
            refine lv_aload_n hx hb dL_areFiles_114 rfl (lv_at hl 2 rfl) ?_
            refine lv_bipush (v := 6) hx hb dL_areFiles_115 (by decide) ?_
            refine lv_iload hx hb dL_areFiles_117 (lv_at hl 3 rfl) ?_
            refine lv_iadd hx hb dL_areFiles_119 ?_
            obtain ⟨hi16, hw⟩ := hw
            refine xg_iald hx hb hK hP xs102 hi16 dL_areFiles_120 ?_
            refine lv_icmp_gt (tgt := 128) hx hb dL_areFiles_121 (by decide) (fun c17 => ?_) (fun c17 => ?_)
            · have hw := hw.1 c17
              exact j_128 _ (hR5) (v4) _ _ _ _ hw hP hS (lv_sub hl [0, 1, 2, 3] rfl)
            · have hw := hw.2 c17
              refine lv_iconst (v := 1) hx hb dL_areFiles_124 (by decide) ?_
              refine lv_goto (tgt := 129) hx hb dL_areFiles_125 (by decide) ?_
              exact j_129 _ (hR5) (v4) (1) _ _ _ _ hw hP hS (lv_sub hl [0, 1, 2, 3] rfl)
      · have hw := hw.2 c7
        refine lv_aload_n hx hb dL_areFiles_37 rfl (lv_at hl 0 rfl) ?_
        refine lv_iload hx hb dL_areFiles_38 (lv_at hl 3 rfl) ?_
        refine lv_iconst (v := (-1)) hx hb dL_areFiles_40 (by decide) ?_
        refine lv_iload hx hb dL_areFiles_41 (lv_at hl 6 rfl) ?_
        refine xg_calli (va_runV (As := [.int (v4), .int ((-1)), .int (v7)]) (rest := []) ⟨hx, hb, hml, hown, hts⟩ (c_X5_line l hl9 hA v4 ((-1) : Int32) v7 hw) (cwV 3 hts gL_areFiles_X5_line rfl rfl rfl (by decide +kernel) ⟨Nat.le_of_ble_eq_true rfl, Nat.le_of_ble_eq_true rfl⟩) (xg_preV hB0 hP hK hN hS xs0 rfl) rfl rfl hl.1 rfl (lv_room (Nat.le_of_ble_eq_true rfl)) dL_areFiles_43 ⟨Nat.le_of_ble_eq_true rfl, Nat.le_of_ble_eq_true rfl⟩) hS (fun r18 h19 H locs hw hP hS => ?_)
        refine lv_istore (lv' := [(8, .int (r18)), (0, .ref (ad (0))), (1, .ref (ad (101))), (2, .ref (ad (102))), (4, .int (v4)), (5, .int (v5)), (6, .int (v6)), (7, .int (v7))]) hx hb dL_areFiles_46 hl (by decide) rfl (fun ls hl => ?_)
        refine lv_iload hx hb dL_areFiles_48 (lv_at hl 5 rfl) ?_
        refine lv_iload hx hb dL_areFiles_50 (lv_at hl 0 rfl) ?_
        refine lv_ldc (v := 100000) hx hb hown (hts (.constant RL 106 100000) (by decide +kernel)) dL_areFiles_52 ?_
        refine lv_icmp_lt (tgt := 62) hx hb dL_areFiles_54 (by decide) (fun c20 => ?_) (fun c20 => ?_)
        · have hw := hw.1 c20
          refine lv_iload hx hb dL_areFiles_62 (lv_at hl 0 rfl) ?_
          refine lv_sipush (v := 10000) hx hb dL_areFiles_64 (by decide) ?_
          refine lv_icmp_lt (tgt := 75) hx hb dL_areFiles_67 (by decide) (fun c21 => ?_) (fun c21 => ?_)
          · have hw := hw.1 c21
            refine lv_aload_n hx hb dL_areFiles_75 rfl (lv_at hl 2 rfl) ?_
            refine lv_iload hx hb dL_areFiles_76 (lv_at hl 0 rfl) ?_
            obtain ⟨hi22, hw⟩ := hw
            refine xg_iald hx hb hK hP xs101 hi22 dL_areFiles_78 ?_
            exact j_79 _ (hR5) _ (ih) (v4) (v6) (v7) (v5) ((h19 101 r18.toNatClampNeg)) _ _ _ _ hw hP hS (lv_sub hl [1, 2, 3, 4, 6, 7] rfl)
          · have hw := hw.2 c21
            refine lv_bipush (v := 15) hx hb dL_areFiles_70 (by decide) ?_
            refine lv_goto (tgt := 79) hx hb dL_areFiles_72 (by decide) ?_
            exact j_79 _ (hR5) _ (ih) (v4) (v6) (v7) (v5) (15) _ _ _ _ hw hP hS (lv_sub hl [1, 2, 3, 4, 6, 7] rfl)
        · have hw := hw.2 c20
          refine lv_bipush (v := 20) hx hb dL_areFiles_57 (by decide) ?_
          refine lv_goto (tgt := 79) hx hb dL_areFiles_59 (by decide) ?_
          exact j_79 _ (hR5) _ (ih) (v4) (v6) (v7) (v5) (20) _ _ _ _ hw hP hS (lv_sub hl [1, 2, 3, 4, 6, 7] rfl)
  have j_5 : ∀ (n : Nat) (v3 : Int32) (v4 : Int32) (h : xH) (H : Heap) (locs : List Loc) (ls : Array Slot), w_L_areFiles_5 K n v3 v4 h → XP ad D T h H → va_S (fun q => B0 ≤ q) s.heap H locs → lv_has ls 12 [(0, .ref (ad (0))), (1, .ref (ad (101))), (2, .ref (ad (102))), (3, .int (v3)), (4, .int (v4))] → W p l e (headSpec wsL_areFiles ({ frames := 3, cells := 0, slots := 0, locals := 69 } : Room)).room s m ([.ref (ad (0)), .ref (ad (101)), .ref (ad (102))] : List Value).toArray below meth c H locs 0 0 (MQ below (XQ B0 ad D T xei K) ([.ref (ad (0)), .ref (ad (101)), .ref (ad (102))] : List Value).toArray s 0 0 (fun q => B0 ≤ q)) (F0 m 5 ls []) := by
    intro n
    induction n with
    | zero => intro v3 v4 h H locs ls hw; exact hw.elim
    | succ n9 ih =>
      intro v3 v4 h H locs ls hw hP hS hl 
      rw [w_L_areFiles_5_s] at hw
      refine lv_iload hx hb dL_areFiles_5 (lv_at hl 4 rfl) ?_
      refine lv_iconst (v := 4) hx hb dL_areFiles_7 (by decide) ?_
      refine lv_icmp_ge (tgt := 277) hx hb dL_areFiles_8 (by decide) (fun c1 => ?_) (fun c1 => ?_)
      · have hw := hw.1 c1
        refine lv_iload_n hx hb dL_areFiles_277 rfl (lv_at hl 3 rfl) ?_
        obtain ⟨hz2, hw⟩ := hw
        exact xg_irets hx hb hr hz2 hlocks hB0 hP hK hN hS dL_areFiles_278 (by decide) (by decide) hw
      · have hw := hw.2 c1
        refine lv_iload_n hx hb dL_areFiles_11 rfl (lv_at hl 3 rfl) ?_
        refine lv_if_eq (tgt := 277) hx hb dL_areFiles_12 (by decide) (fun c3 => ?_) (fun c3 => ?_)
        · have hw := hw.1 c3
          refine lv_iload_n hx hb dL_areFiles_277 rfl (lv_at hl 3 rfl) ?_
          obtain ⟨hz4, hw⟩ := hw
          exact xg_irets hx hb hr hz4 hlocks hB0 hP hK hN hS dL_areFiles_278 (by decide) (by decide) hw
        · have hw := hw.2 c3
          refine lv_iconst (v := 0) hx hb dL_areFiles_15 (by decide) ?_
          refine lv_istore (lv' := [(5, .int (0)), (0, .ref (ad (0))), (1, .ref (ad (101))), (2, .ref (ad (102))), (3, .int (v3)), (4, .int (v4))]) hx hb dL_areFiles_16 hl (by decide) rfl (fun ls hl => ?_)
          refine lv_aload_n hx hb dL_areFiles_18 rfl (lv_at hl 1 rfl) ?_
          refine lv_iload hx hb dL_areFiles_19 (lv_at hl 5 rfl) ?_
          refine lv_iconst (v := (-1)) hx hb dL_areFiles_21 (by decide) ?_
          refine xg_calli (va_runV (As := [.int (v4), .int ((-1))]) (rest := []) ⟨hx, hb, hml, hown, hts⟩ (c_X5_lines l hl9 hA v4 ((-1) : Int32) hw) (cwV 2 hts gL_areFiles_X5_lines rfl rfl rfl (by decide +kernel) ⟨Nat.le_of_ble_eq_true rfl, Nat.le_of_ble_eq_true rfl⟩) (xg_preV hB0 hP hK hN hS xs0 rfl) rfl rfl hl.1 rfl (lv_room (Nat.le_of_ble_eq_true rfl)) dL_areFiles_22 ⟨Nat.le_of_ble_eq_true rfl, Nat.le_of_ble_eq_true rfl⟩) hS (fun r5 h6 H locs hw hP hS => ?_)
          refine lv_istore (lv' := [(6, .int (r5)), (5, .int (0)), (0, .ref (ad (0))), (1, .ref (ad (101))), (2, .ref (ad (102))), (3, .int (v3)), (4, .int (v4))]) hx hb dL_areFiles_25 hl (by decide) rfl (fun ls hl => ?_)
          refine lv_iconst (v := 0) hx hb dL_areFiles_27 (by decide) ?_
          refine lv_istore (lv' := [(7, .int (0)), (6, .int (r5)), (5, .int (0)), (0, .ref (ad (0))), (1, .ref (ad (101))), (2, .ref (ad (102))), (3, .int (v3)), (4, .int (v4))]) hx hb dL_areFiles_28 hl (by decide) rfl (fun ls hl => ?_)
          obtain ⟨n9, hw⟩ := hw
          exact j_30 _ (ih) n9 (v4) (0) (r5) (0) _ _ _ _ hw hP hS (lv_sub hl [3, 4, 5, 7, 2, 1, 0] rfl)
  unfold w_L_areFiles at hw
  refine lv_iconst (v := 1) hx hb dL_areFiles_0 (by decide) ?_
  refine lv_istore_n (lv' := [(3, .int (1)), (0, .ref (ad (0))), (1, .ref (ad (101))), (2, .ref (ad (102)))]) hx hb dL_areFiles_1 rfl hl (by decide) rfl (fun ls hl => ?_)
  refine lv_iconst (v := 0) hx hb dL_areFiles_2 (by decide) ?_
  refine lv_istore (lv' := [(4, .int (0)), (3, .int (1)), (0, .ref (ad (0))), (1, .ref (ad (101))), (2, .ref (ad (102)))]) hx hb dL_areFiles_3 hl (by decide) rfl (fun ls hl => ?_)
  obtain ⟨n9, hw⟩ := hw
  exact j_5  n9 (1) (0) _ _ _ _ hw hP hS (lv_sub hl [2, 3, 4, 1, 0] rfl)
set_option maxHeartbeats 4000000 in
set_option maxRecDepth 100000 in
theorem r_L_isLedger (l : Launch) (hl9 : l.stackTraces = false) {B0 : Nat} {ad : Nat → Nat} {D : va_G} {T : Nat → ClassId} (hA : XA B0 ad) (had : ad 103 ≠ 0) {h : xH} {K : Int32 → xH → Prop} {p : Program} {e : Env} {s : State} {m : MethodId} {below : List Frame} {meth : Method} {c : Code} (hx : p.tables.exec = Jvm.exec) (hb : c.code = cL_isLedger) (hr : meth.sig.returnType = (some .boolean)) (hml : c.maxLocals = 8) (hown : s.vm.findClass RL = some m.cls) (hts : ∀ w ∈ wsL_isLedger, w.before ([.ref (ad (0)), .ref (ad (102))] : List Value).toArray s = true) (hlocks : meth.locks = false) (hB0 : B0 ≤ s.heap.size) (hK : XK D T s) (hN : XN B0 s s.heap) (hw : w_L_isLedger h K) (H : Heap) (locs : List Loc) (ls : Array Slot) (hP : XP ad D T h H) (hS : va_S (fun q => B0 ≤ q) s.heap H locs) (hl : lv_has ls 8 [(0, .ref (ad (0))), (1, .ref (ad (102))), (2, .ref (ad (103)))]) : W p l e (headSpec wsL_isLedger ({ frames := 2, cells := 1, slots := 6, locals := 44 } : Room)).room s m ([.ref (ad (0)), .ref (ad (102))] : List Value).toArray below meth c H locs 1 6 (MQ below (XQ B0 ad D T xei K) ([.ref (ad (0)), .ref (ad (102))] : List Value).toArray s 1 6 (fun q => B0 ≤ q)) (F0 m 4 ls []) := by
  have j_172 : ∀ (R112 : Int32 → Int32 → Int32 → Int32 → Int32 → xH → Prop) (hR112 : ∀ (v3 : Int32) (v4 : Int32) (v5 : Int32) (v6 : Int32) (v7 : Int32) (h : xH) (H : Heap) (locs : List Loc) (ls : Array Slot), R112 v3 v4 v5 v6 v7 h → XP ad D T h H → va_S (fun q => B0 ≤ q) s.heap H locs → lv_has ls 8 [(0, .ref (ad (0))), (1, .ref (ad (102))), (2, .ref (ad (103))), (3, .int (v3)), (4, .int (v4)), (5, .int (v5)), (6, .int (v6)), (7, .int (v7))] → W p l e (headSpec wsL_isLedger ({ frames := 2, cells := 1, slots := 6, locals := 44 } : Room)).room s m ([.ref (ad (0)), .ref (ad (102))] : List Value).toArray below meth c H locs 1 6 (MQ below (XQ B0 ad D T xei K) ([.ref (ad (0)), .ref (ad (102))] : List Value).toArray s 1 6 (fun q => B0 ≤ q)) (F0 m 112 ls [])) (v3 : Int32) (v5 : Int32) (v6 : Int32) (v7 : Int32) (s0 : Int32) (h : xH) (H : Heap) (locs : List Loc) (ls : Array Slot), w_L_isLedger_172 K R112 v3 v5 v6 v7 s0 h → XP ad D T h H → va_S (fun q => B0 ≤ q) s.heap H locs → lv_has ls 8 [(0, .ref (ad (0))), (1, .ref (ad (102))), (2, .ref (ad (103))), (3, .int (v3)), (5, .int (v5)), (6, .int (v6)), (7, .int (v7))] → W p l e (headSpec wsL_isLedger ({ frames := 2, cells := 1, slots := 6, locals := 44 } : Room)).room s m ([.ref (ad (0)), .ref (ad (102))] : List Value).toArray below meth c H locs 1 6 (MQ below (XQ B0 ad D T xei K) ([.ref (ad (0)), .ref (ad (102))] : List Value).toArray s 1 6 (fun q => B0 ≤ q)) (F0 m 172 ls [.int (s0)]) := by
    intro R112 hR112 v3 v5 v6 v7 s0 h H locs ls hw hP hS hl 
    unfold w_L_isLedger_172 at hw
    refine lv_istore (lv' := [(4, .int (s0)), (0, .ref (ad (0))), (1, .ref (ad (102))), (2, .ref (ad (103))), (3, .int (v3)), (5, .int (v5)), (6, .int (v6)), (7, .int (v7))]) hx hb dL_isLedger_172 hl (by decide) rfl (fun ls hl => ?_)
    obtain ⟨x59, ex59⟩ : ∃ z : Int32, z = v7 + 1 := ⟨_, rfl⟩
    have hw := hw x59 ex59
    refine lv_iinc (v := x59) (lv' := [(7, .int (x59)), (4, .int (s0)), (0, .ref (ad (0))), (1, .ref (ad (102))), (2, .ref (ad (103))), (3, .int (v3)), (5, .int (v5)), (6, .int (v6))]) hx hb dL_isLedger_174 hl (k := 7) rfl (by rw [ex59]; rfl) (by decide) rfl (fun ls hl => ?_)
    refine lv_goto (tgt := 112) hx hb dL_isLedger_177 (by decide) ?_
    exact hR112 (v3) (s0) (v5) (v6) (x59) _ _ _ _ hw hP hS (lv_sub hl [2, 3, 4, 5, 1, 6, 7, 0] rfl)
  have j_171 : ∀ (R112 : Int32 → Int32 → Int32 → Int32 → Int32 → xH → Prop) (hR112 : ∀ (v3 : Int32) (v4 : Int32) (v5 : Int32) (v6 : Int32) (v7 : Int32) (h : xH) (H : Heap) (locs : List Loc) (ls : Array Slot), R112 v3 v4 v5 v6 v7 h → XP ad D T h H → va_S (fun q => B0 ≤ q) s.heap H locs → lv_has ls 8 [(0, .ref (ad (0))), (1, .ref (ad (102))), (2, .ref (ad (103))), (3, .int (v3)), (4, .int (v4)), (5, .int (v5)), (6, .int (v6)), (7, .int (v7))] → W p l e (headSpec wsL_isLedger ({ frames := 2, cells := 1, slots := 6, locals := 44 } : Room)).room s m ([.ref (ad (0)), .ref (ad (102))] : List Value).toArray below meth c H locs 1 6 (MQ below (XQ B0 ad D T xei K) ([.ref (ad (0)), .ref (ad (102))] : List Value).toArray s 1 6 (fun q => B0 ≤ q)) (F0 m 112 ls [])) (v3 : Int32) (v5 : Int32) (v6 : Int32) (v7 : Int32) (h : xH) (H : Heap) (locs : List Loc) (ls : Array Slot), w_L_isLedger_171 K R112 v3 v5 v6 v7 h → XP ad D T h H → va_S (fun q => B0 ≤ q) s.heap H locs → lv_has ls 8 [(0, .ref (ad (0))), (1, .ref (ad (102))), (2, .ref (ad (103))), (3, .int (v3)), (5, .int (v5)), (6, .int (v6)), (7, .int (v7))] → W p l e (headSpec wsL_isLedger ({ frames := 2, cells := 1, slots := 6, locals := 44 } : Room)).room s m ([.ref (ad (0)), .ref (ad (102))] : List Value).toArray below meth c H locs 1 6 (MQ below (XQ B0 ad D T xei K) ([.ref (ad (0)), .ref (ad (102))] : List Value).toArray s 1 6 (fun q => B0 ≤ q)) (F0 m 171 ls []) := by
    intro R112 hR112 v3 v5 v6 v7 h H locs ls hw hP hS hl 
    unfold w_L_isLedger_171 at hw
    refine lv_iconst (v := 0) hx hb dL_isLedger_171 (by decide) ?_
    exact j_172 _ (hR112) (v3) (v5) (v6) (v7) (0) _ _ _ _ hw hP hS (lv_sub hl [0, 1, 2, 3, 4, 5, 6] rfl)
  have j_112 : ∀ (n : Nat) (v3 : Int32) (v4 : Int32) (v5 : Int32) (v6 : Int32) (v7 : Int32) (h : xH) (H : Heap) (locs : List Loc) (ls : Array Slot), w_L_isLedger_112 K n v3 v4 v5 v6 v7 h → XP ad D T h H → va_S (fun q => B0 ≤ q) s.heap H locs → lv_has ls 8 [(0, .ref (ad (0))), (1, .ref (ad (102))), (2, .ref (ad (103))), (3, .int (v3)), (4, .int (v4)), (5, .int (v5)), (6, .int (v6)), (7, .int (v7))] → W p l e (headSpec wsL_isLedger ({ frames := 2, cells := 1, slots := 6, locals := 44 } : Room)).room s m ([.ref (ad (0)), .ref (ad (102))] : List Value).toArray below meth c H locs 1 6 (MQ below (XQ B0 ad D T xei K) ([.ref (ad (0)), .ref (ad (102))] : List Value).toArray s 1 6 (fun q => B0 ≤ q)) (F0 m 112 ls []) := by
    intro n
    induction n with
    | zero => intro v3 v4 v5 v6 v7 h H locs ls hw; exact hw.elim
    | succ n9 ih =>
      intro v3 v4 v5 v6 v7 h H locs ls hw hP hS hl 
      rw [w_L_isLedger_112_s] at hw
      refine lv_iload hx hb dL_isLedger_112 (lv_at hl 7 rfl) ?_
      refine lv_bipush (v := 6) hx hb dL_isLedger_114 (by decide) ?_
      refine lv_icmp_ge (tgt := 180) hx hb dL_isLedger_116 (by decide) (fun c22 => ?_) (fun c22 => ?_)
      · have hw := hw.1 c22
        refine lv_iload hx hb dL_isLedger_180 (lv_at hl 4 rfl) ?_
        refine lv_if_eq (tgt := 250) hx hb dL_isLedger_182 (by decide) (fun c23 => ?_) (fun c23 => ?_)
        · have hw := hw.1 c23
          refine lv_iconst (v := 0) hx hb dL_isLedger_250 (by decide) ?_
          exact xg_irets hx hb hr rfl hlocks hB0 hP hK hN hS dL_isLedger_251 (by decide) (by decide) hw
        · have hw := hw.2 c23
          refine lv_iload hx hb dL_isLedger_185 (lv_at hl 5 rfl) ?_
          refine lv_aload_n hx hb dL_isLedger_187 rfl (lv_at hl 2 rfl) ?_
          refine lv_iconst (v := 1) hx hb dL_isLedger_188 (by decide) ?_
          obtain ⟨hi24, hw⟩ := hw
          refine xg_iald hx hb hK hP (xs103 had) hi24 dL_isLedger_189 ?_
          refine lv_icmp_gt (tgt := 250) hx hb dL_isLedger_190 (by decide) (fun c25 => ?_) (fun c25 => ?_)
          · have hw := hw.1 c25
            refine lv_iconst (v := 0) hx hb dL_isLedger_250 (by decide) ?_
            exact xg_irets hx hb hr rfl hlocks hB0 hP hK hN hS dL_isLedger_251 (by decide) (by decide) hw
          · have hw := hw.2 c25
            refine lv_iload hx hb dL_isLedger_193 (lv_at hl 6 rfl) ?_
            refine lv_aload_n hx hb dL_isLedger_195 rfl (lv_at hl 2 rfl) ?_
            refine lv_iconst (v := 0) hx hb dL_isLedger_196 (by decide) ?_
            obtain ⟨hi26, hw⟩ := hw
            refine xg_iald hx hb hK hP (xs103 had) hi26 dL_isLedger_197 ?_
            refine lv_icmp_gt (tgt := 250) hx hb dL_isLedger_198 (by decide) (fun c27 => ?_) (fun c27 => ?_)
            · have hw := hw.1 c27
              refine lv_iconst (v := 0) hx hb dL_isLedger_250 (by decide) ?_
              exact xg_irets hx hb hr rfl hlocks hB0 hP hK hN hS dL_isLedger_251 (by decide) (by decide) hw
            · have hw := hw.2 c27
              refine lv_aload_n hx hb dL_isLedger_201 rfl (lv_at hl 0 rfl) ?_
              refine xg_calli (va_runV (As := []) (rest := []) ⟨hx, hb, hml, hown, hts⟩ (c_X5_queued l hl9 hA hw) (cwV 0 hts gL_isLedger_X5_queued rfl rfl rfl (by decide +kernel) ⟨Nat.le_of_ble_eq_true rfl, Nat.le_of_ble_eq_true rfl⟩) (xg_preV hB0 hP hK hN hS xs0 rfl) rfl rfl hl.1 rfl (lv_room (Nat.le_of_ble_eq_true rfl)) dL_isLedger_202 ⟨Nat.le_of_ble_eq_true rfl, Nat.le_of_ble_eq_true rfl⟩) hS (fun r28 h29 H locs hw hP hS => ?_)
              refine lv_aload_n hx hb dL_isLedger_205 rfl (lv_at hl 0 rfl) ?_
              refine xg_calli (va_runV (As := []) (rest := [.int (r28)]) ⟨hx, hb, hml, hown, hts⟩ (c_X5_inFlight l hl9 hA hw) (cwV 0 hts gL_isLedger_X5_inFlight rfl rfl rfl (by decide +kernel) ⟨Nat.le_of_ble_eq_true rfl, Nat.le_of_ble_eq_true rfl⟩) (xg_preV hB0 hP hK hN hS xs0 rfl) rfl rfl hl.1 rfl (lv_room (Nat.le_of_ble_eq_true rfl)) dL_isLedger_206 ⟨Nat.le_of_ble_eq_true rfl, Nat.le_of_ble_eq_true rfl⟩) hS (fun r30 h31 H locs hw hP hS => ?_)
              refine lv_iadd hx hb dL_isLedger_209 ?_
              refine lv_bipush (v := 30) hx hb dL_isLedger_210 (by decide) ?_
              refine lv_icmp_gt (tgt := 250) hx hb dL_isLedger_212 (by decide) (fun c32 => ?_) (fun c32 => ?_)
              · have hw := hw.1 c32
                refine lv_iconst (v := 0) hx hb dL_isLedger_250 (by decide) ?_
                exact xg_irets hx hb hr rfl hlocks hB0 hP hK hN hS dL_isLedger_251 (by decide) (by decide) hw
              · have hw := hw.2 c32
                refine lv_aload_n hx hb dL_isLedger_215 rfl (lv_at hl 0 rfl) ?_
                refine xg_calli (va_runV (As := []) (rest := []) ⟨hx, hb, hml, hown, hts⟩ (c_X5_inFlight l hl9 hA hw) (cwV 0 hts gL_isLedger_X5_inFlight rfl rfl rfl (by decide +kernel) ⟨Nat.le_of_ble_eq_true rfl, Nat.le_of_ble_eq_true rfl⟩) (xg_preV hB0 hP hK hN hS xs0 rfl) rfl rfl hl.1 rfl (lv_room (Nat.le_of_ble_eq_true rfl)) dL_isLedger_216 ⟨Nat.le_of_ble_eq_true rfl, Nat.le_of_ble_eq_true rfl⟩) hS (fun r33 h34 H locs hw hP hS => ?_)
                refine lv_iconst (v := 5) hx hb dL_isLedger_219 (by decide) ?_
                refine lv_icmp_gt (tgt := 250) hx hb dL_isLedger_220 (by decide) (fun c35 => ?_) (fun c35 => ?_)
                · have hw := hw.1 c35
                  refine lv_iconst (v := 0) hx hb dL_isLedger_250 (by decide) ?_
                  exact xg_irets hx hb hr rfl hlocks hB0 hP hK hN hS dL_isLedger_251 (by decide) (by decide) hw
                · have hw := hw.2 c35
                  refine lv_aload_n hx hb dL_isLedger_223 rfl (lv_at hl 0 rfl) ?_
                  refine xg_calli (va_runV (As := []) (rest := []) ⟨hx, hb, hml, hown, hts⟩ (c_X5_queued l hl9 hA hw) (cwV 0 hts gL_isLedger_X5_queued rfl rfl rfl (by decide +kernel) ⟨Nat.le_of_ble_eq_true rfl, Nat.le_of_ble_eq_true rfl⟩) (xg_preV hB0 hP hK hN hS xs0 rfl) rfl rfl hl.1 rfl (lv_room (Nat.le_of_ble_eq_true rfl)) dL_isLedger_224 ⟨Nat.le_of_ble_eq_true rfl, Nat.le_of_ble_eq_true rfl⟩) hS (fun r36 h37 H locs hw hP hS => ?_)
                  refine lv_aload_n hx hb dL_isLedger_227 rfl (lv_at hl 0 rfl) ?_
                  refine xg_calli (va_runV (As := []) (rest := [.int (r36)]) ⟨hx, hb, hml, hown, hts⟩ (c_X5_inFlight l hl9 hA hw) (cwV 0 hts gL_isLedger_X5_inFlight rfl rfl rfl (by decide +kernel) ⟨Nat.le_of_ble_eq_true rfl, Nat.le_of_ble_eq_true rfl⟩) (xg_preV hB0 hP hK hN hS xs0 rfl) rfl rfl hl.1 rfl (lv_room (Nat.le_of_ble_eq_true rfl)) dL_isLedger_228 ⟨Nat.le_of_ble_eq_true rfl, Nat.le_of_ble_eq_true rfl⟩) hS (fun r38 h39 H locs hw hP hS => ?_)
                  refine lv_iadd hx hb dL_isLedger_231 ?_
                  refine lv_aload_n hx hb dL_isLedger_232 rfl (lv_at hl 0 rfl) ?_
                  refine xg_calli (va_runV (As := []) (rest := [.int ((r36 + r38))]) ⟨hx, hb, hml, hown, hts⟩ (c_X5_acknowledged l hl9 hA hw) (cwV 0 hts gL_isLedger_X5_acknowledged rfl rfl rfl (by decide +kernel) ⟨Nat.le_of_ble_eq_true rfl, Nat.le_of_ble_eq_true rfl⟩) (xg_preV hB0 hP hK hN hS xs0 rfl) rfl rfl hl.1 rfl (lv_room (Nat.le_of_ble_eq_true rfl)) dL_isLedger_233 ⟨Nat.le_of_ble_eq_true rfl, Nat.le_of_ble_eq_true rfl⟩) hS (fun r40 h41 H locs hw hP hS => ?_)
                  refine lv_iadd hx hb dL_isLedger_236 ?_
                  refine lv_aload_n hx hb dL_isLedger_237 rfl (lv_at hl 0 rfl) ?_
                  refine xg_calli (va_runV (As := []) (rest := [.int (((r36 + r38) + r40))]) ⟨hx, hb, hml, hown, hts⟩ (c_X5_lost l hl9 hA hw) (cwV 0 hts gL_isLedger_X5_lost rfl rfl rfl (by decide +kernel) ⟨Nat.le_of_ble_eq_true rfl, Nat.le_of_ble_eq_true rfl⟩) (xg_preV hB0 hP hK hN hS xs0 rfl) rfl rfl hl.1 rfl (lv_room (Nat.le_of_ble_eq_true rfl)) dL_isLedger_238 ⟨Nat.le_of_ble_eq_true rfl, Nat.le_of_ble_eq_true rfl⟩) hS (fun r42 h43 H locs hw hP hS => ?_)
                  refine lv_iadd hx hb dL_isLedger_241 ?_
                  refine lv_iload_n hx hb dL_isLedger_242 rfl (lv_at hl 3 rfl) ?_
                  refine lv_icmp_lt (tgt := 250) hx hb dL_isLedger_243 (by decide) (fun c44 => ?_) (fun c44 => ?_)
                  · have hw := hw.1 c44
                    refine lv_iconst (v := 0) hx hb dL_isLedger_250 (by decide) ?_
                    exact xg_irets hx hb hr rfl hlocks hB0 hP hK hN hS dL_isLedger_251 (by decide) (by decide) hw
                  · have hw := hw.2 c44
                    refine lv_iconst (v := 1) hx hb dL_isLedger_246 (by decide) ?_
                    refine lv_goto (tgt := 251) hx hb dL_isLedger_247 (by decide) ?_
                    exact xg_irets hx hb hr rfl hlocks hB0 hP hK hN hS dL_isLedger_251 (by decide) (by decide) hw
      · have hw := hw.2 c22
        refine lv_iload hx hb dL_isLedger_119 (lv_at hl 5 rfl) ?_
        refine lv_aload_n hx hb dL_isLedger_121 rfl (lv_at hl 0 rfl) ?_
        refine lv_iload hx hb dL_isLedger_122 (lv_at hl 7 rfl) ?_
        refine xg_calli (va_runV (As := [.int (v7)]) (rest := [.int (v5)]) ⟨hx, hb, hml, hown, hts⟩ (c_X5_drops l hl9 hA v7 hw) (cwV 1 hts gL_isLedger_X5_drops rfl rfl rfl (by decide +kernel) ⟨Nat.le_of_ble_eq_true rfl, Nat.le_of_ble_eq_true rfl⟩) (xg_preV hB0 hP hK hN hS xs0 rfl) rfl rfl hl.1 rfl (lv_room (Nat.le_of_ble_eq_true rfl)) dL_isLedger_124 ⟨Nat.le_of_ble_eq_true rfl, Nat.le_of_ble_eq_true rfl⟩) hS (fun r45 h46 H locs hw hP hS => ?_)
        refine lv_iadd hx hb dL_isLedger_127 ?_
        refine lv_topi (fun x47 ex47 => ?_)
        have hw := hw x47 ex47
        refine lv_istore (lv' := [(5, .int (x47)), (0, .ref (ad (0))), (1, .ref (ad (102))), (2, .ref (ad (103))), (3, .int (v3)), (4, .int (v4)), (6, .int (v6)), (7, .int (v7))]) hx hb dL_isLedger_128 hl (by decide) rfl (fun ls hl => ?_)
        refine lv_iload hx hb dL_isLedger_130 (lv_at hl 6 rfl) ?_
        refine lv_aload_n hx hb dL_isLedger_132 rfl (lv_at hl 1 rfl) ?_
        refine lv_iload hx hb dL_isLedger_133 (lv_at hl 7 rfl) ?_
        refine xg_calli (va_runV (As := [.int (v7)]) (rest := [.int (v6)]) ⟨hx, hb, hml, hown, hts⟩ (c_X5_repeats l hl9 hA v7 hw) (cwV 1 hts gL_isLedger_X5_repeats rfl rfl rfl (by decide +kernel) ⟨Nat.le_of_ble_eq_true rfl, Nat.le_of_ble_eq_true rfl⟩) (xg_preV hB0 hP hK hN hS xs0 rfl) rfl rfl hl.1 rfl (lv_room (Nat.le_of_ble_eq_true rfl)) dL_isLedger_135 ⟨Nat.le_of_ble_eq_true rfl, Nat.le_of_ble_eq_true rfl⟩) hS (fun r48 h49 H locs hw hP hS => ?_)
        refine lv_iadd hx hb dL_isLedger_138 ?_
        refine lv_topi (fun x50 ex50 => ?_)
        have hw := hw x50 ex50
        refine lv_istore (lv' := [(6, .int (x50)), (5, .int (x47)), (0, .ref (ad (0))), (1, .ref (ad (102))), (2, .ref (ad (103))), (3, .int (v3)), (4, .int (v4)), (7, .int (v7))]) hx hb dL_isLedger_139 hl (by decide) rfl (fun ls hl => ?_)
        refine lv_iload hx hb dL_isLedger_141 (lv_at hl 6 rfl) ?_
        refine lv_if_eq (tgt := 171) hx hb dL_isLedger_143 (by decide) (fun c51 => ?_) (fun c51 => ?_)
        · have hw := hw.1 c51
          exact j_171 _ (ih) (v3) (x47) (x50) (v7) _ _ _ _ hw hP hS (lv_sub hl [2, 3, 4, 5, 1, 0, 7] rfl)
        · have hw := hw.2 c51
          refine lv_aload_n hx hb dL_isLedger_146 rfl (lv_at hl 2 rfl) ?_
          refine lv_iload hx hb dL_isLedger_147 (lv_at hl 7 rfl) ?_
          refine xg_calli (va_runV (As := [.int (v7)]) (rest := []) ⟨hx, hb, hml, hown, hts⟩ (c_X5_tokens l hl9 hA v7 hw) (cwV 1 hts gL_isLedger_X5_tokens rfl rfl rfl (by decide +kernel) ⟨Nat.le_of_ble_eq_true rfl, Nat.le_of_ble_eq_true rfl⟩) (xg_preV hB0 hP hK hN hS xs0 rfl) rfl rfl hl.1 rfl (lv_room (Nat.le_of_ble_eq_true rfl)) dL_isLedger_149 ⟨Nat.le_of_ble_eq_true rfl, Nat.le_of_ble_eq_true rfl⟩) hS (fun r52 h53 H locs hw hP hS => ?_)
          refine lv_if_lt (tgt := 171) hx hb dL_isLedger_152 (by decide) (fun c54 => ?_) (fun c54 => ?_)
          · have hw := hw.1 c54
            exact j_171 _ (ih) (v3) (x47) (x50) (v7) _ _ _ _ hw hP hS (lv_sub hl [2, 3, 4, 5, 1, 0, 7] rfl)
          · have hw := hw.2 c54
            refine lv_aload_n hx hb dL_isLedger_155 rfl (lv_at hl 2 rfl) ?_
            refine lv_iload hx hb dL_isLedger_156 (lv_at hl 7 rfl) ?_
            refine xg_calli (va_runV (As := [.int (v7)]) (rest := []) ⟨hx, hb, hml, hown, hts⟩ (c_X5_tokens l hl9 hA v7 hw) (cwV 1 hts gL_isLedger_X5_tokens rfl rfl rfl (by decide +kernel) ⟨Nat.le_of_ble_eq_true rfl, Nat.le_of_ble_eq_true rfl⟩) (xg_preV hB0 hP hK hN hS xs0 rfl) rfl rfl hl.1 rfl (lv_room (Nat.le_of_ble_eq_true rfl)) dL_isLedger_158 ⟨Nat.le_of_ble_eq_true rfl, Nat.le_of_ble_eq_true rfl⟩) hS (fun r55 h56 H locs hw hP hS => ?_)
            refine lv_aload_n hx hb dL_isLedger_161 rfl (lv_at hl 3 rfl) ?_
            refine lv_iconst (v := 2) hx hb dL_isLedger_162 (by decide) ?_
            obtain ⟨hi57, hw⟩ := hw
            refine xg_iald hx hb hK hP xs102 hi57 dL_isLedger_163 ?_
            refine lv_icmp_gt (tgt := 171) hx hb dL_isLedger_164 (by decide) (fun c58 => ?_) (fun c58 => ?_)
            · have hw := hw.1 c58
              exact j_171 _ (ih) (v3) (x47) (x50) (v7) _ _ _ _ hw hP hS (lv_sub hl [2, 3, 4, 5, 1, 0, 7] rfl)
            · have hw := hw.2 c58
              refine lv_iconst (v := 1) hx hb dL_isLedger_167 (by decide) ?_
              refine lv_goto (tgt := 172) hx hb dL_isLedger_168 (by decide) ?_
              exact j_172 _ (ih) (v3) (x47) (x50) (v7) (1) _ _ _ _ hw hP hS (lv_sub hl [2, 3, 4, 5, 1, 0, 7] rfl)
  have j_95 : ∀ (R66 : Int32 → Int32 → Int32 → xH → Prop) (hR66 : ∀ (v3 : Int32) (v4 : Int32) (v5 : Int32) (h : xH) (H : Heap) (locs : List Loc) (ls : Array Slot), R66 v3 v4 v5 h → XP ad D T h H → va_S (fun q => B0 ≤ q) s.heap H locs → lv_has ls 8 [(0, .ref (ad (0))), (1, .ref (ad (102))), (2, .ref (ad (103))), (3, .int (v3)), (4, .int (v4)), (5, .int (v5))] → W p l e (headSpec wsL_isLedger ({ frames := 2, cells := 1, slots := 6, locals := 44 } : Room)).room s m ([.ref (ad (0)), .ref (ad (102))] : List Value).toArray below meth c H locs 1 6 (MQ below (XQ B0 ad D T xei K) ([.ref (ad (0)), .ref (ad (102))] : List Value).toArray s 1 6 (fun q => B0 ≤ q)) (F0 m 66 ls [])) (v3 : Int32) (v5 : Int32) (s0 : Int32) (h : xH) (H : Heap) (locs : List Loc) (ls : Array Slot), w_L_isLedger_95 K R66 v3 v5 s0 h → XP ad D T h H → va_S (fun q => B0 ≤ q) s.heap H locs → lv_has ls 8 [(0, .ref (ad (0))), (1, .ref (ad (102))), (2, .ref (ad (103))), (3, .int (v3)), (5, .int (v5))] → W p l e (headSpec wsL_isLedger ({ frames := 2, cells := 1, slots := 6, locals := 44 } : Room)).room s m ([.ref (ad (0)), .ref (ad (102))] : List Value).toArray below meth c H locs 1 6 (MQ below (XQ B0 ad D T xei K) ([.ref (ad (0)), .ref (ad (102))] : List Value).toArray s 1 6 (fun q => B0 ≤ q)) (F0 m 95 ls [.int (s0)]) := by
    intro R66 hR66 v3 v5 s0 h H locs ls hw hP hS hl 
    unfold w_L_isLedger_95 at hw
    refine lv_istore (lv' := [(4, .int (s0)), (0, .ref (ad (0))), (1, .ref (ad (102))), (2, .ref (ad (103))), (3, .int (v3)), (5, .int (v5))]) hx hb dL_isLedger_95 hl (by decide) rfl (fun ls hl => ?_)
    obtain ⟨x60, ex60⟩ : ∃ z : Int32, z = v5 + 1 := ⟨_, rfl⟩
    have hw := hw x60 ex60
    refine lv_iinc (v := x60) (lv' := [(5, .int (x60)), (4, .int (s0)), (0, .ref (ad (0))), (1, .ref (ad (102))), (2, .ref (ad (103))), (3, .int (v3))]) hx hb dL_isLedger_97 hl (k := 5) rfl (by rw [ex60]; rfl) (by decide) rfl (fun ls hl => ?_)
    refine lv_goto (tgt := 66) hx hb dL_isLedger_100 (by decide) ?_
    exact hR66 (v3) (s0) (x60) _ _ _ _ hw hP hS (lv_sub hl [2, 3, 4, 5, 1, 0] rfl)
  have j_94 : ∀ (R66 : Int32 → Int32 → Int32 → xH → Prop) (hR66 : ∀ (v3 : Int32) (v4 : Int32) (v5 : Int32) (h : xH) (H : Heap) (locs : List Loc) (ls : Array Slot), R66 v3 v4 v5 h → XP ad D T h H → va_S (fun q => B0 ≤ q) s.heap H locs → lv_has ls 8 [(0, .ref (ad (0))), (1, .ref (ad (102))), (2, .ref (ad (103))), (3, .int (v3)), (4, .int (v4)), (5, .int (v5))] → W p l e (headSpec wsL_isLedger ({ frames := 2, cells := 1, slots := 6, locals := 44 } : Room)).room s m ([.ref (ad (0)), .ref (ad (102))] : List Value).toArray below meth c H locs 1 6 (MQ below (XQ B0 ad D T xei K) ([.ref (ad (0)), .ref (ad (102))] : List Value).toArray s 1 6 (fun q => B0 ≤ q)) (F0 m 66 ls [])) (v3 : Int32) (v5 : Int32) (h : xH) (H : Heap) (locs : List Loc) (ls : Array Slot), w_L_isLedger_94 K R66 v3 v5 h → XP ad D T h H → va_S (fun q => B0 ≤ q) s.heap H locs → lv_has ls 8 [(0, .ref (ad (0))), (1, .ref (ad (102))), (2, .ref (ad (103))), (3, .int (v3)), (5, .int (v5))] → W p l e (headSpec wsL_isLedger ({ frames := 2, cells := 1, slots := 6, locals := 44 } : Room)).room s m ([.ref (ad (0)), .ref (ad (102))] : List Value).toArray below meth c H locs 1 6 (MQ below (XQ B0 ad D T xei K) ([.ref (ad (0)), .ref (ad (102))] : List Value).toArray s 1 6 (fun q => B0 ≤ q)) (F0 m 94 ls []) := by
    intro R66 hR66 v3 v5 h H locs ls hw hP hS hl 
    unfold w_L_isLedger_94 at hw
    refine lv_iconst (v := 0) hx hb dL_isLedger_94 (by decide) ?_
    exact j_95 _ (hR66) (v3) (v5) (0) _ _ _ _ hw hP hS (lv_sub hl [0, 1, 2, 3, 4] rfl)
  have j_66 : ∀ (n : Nat) (v3 : Int32) (v4 : Int32) (v5 : Int32) (h : xH) (H : Heap) (locs : List Loc) (ls : Array Slot), w_L_isLedger_66 K n v3 v4 v5 h → XP ad D T h H → va_S (fun q => B0 ≤ q) s.heap H locs → lv_has ls 8 [(0, .ref (ad (0))), (1, .ref (ad (102))), (2, .ref (ad (103))), (3, .int (v3)), (4, .int (v4)), (5, .int (v5))] → W p l e (headSpec wsL_isLedger ({ frames := 2, cells := 1, slots := 6, locals := 44 } : Room)).room s m ([.ref (ad (0)), .ref (ad (102))] : List Value).toArray below meth c H locs 1 6 (MQ below (XQ B0 ad D T xei K) ([.ref (ad (0)), .ref (ad (102))] : List Value).toArray s 1 6 (fun q => B0 ≤ q)) (F0 m 66 ls []) := by
    intro n
    induction n with
    | zero => intro v3 v4 v5 h H locs ls hw; exact hw.elim
    | succ n9 ih =>
      intro v3 v4 v5 h H locs ls hw hP hS hl 
      rw [w_L_isLedger_66_s] at hw
      refine lv_iload hx hb dL_isLedger_66 (lv_at hl 5 rfl) ?_
      refine lv_iconst (v := 4) hx hb dL_isLedger_68 (by decide) ?_
      refine lv_icmp_ge (tgt := 103) hx hb dL_isLedger_69 (by decide) (fun c16 => ?_) (fun c16 => ?_)
      · have hw := hw.1 c16
        refine lv_iconst (v := 0) hx hb dL_isLedger_103 (by decide) ?_
        refine lv_istore (lv' := [(5, .int (0)), (0, .ref (ad (0))), (1, .ref (ad (102))), (2, .ref (ad (103))), (3, .int (v3)), (4, .int (v4))]) hx hb dL_isLedger_104 hl (by decide) rfl (fun ls hl => ?_)
        refine lv_iconst (v := 0) hx hb dL_isLedger_106 (by decide) ?_
        refine lv_istore (lv' := [(6, .int (0)), (5, .int (0)), (0, .ref (ad (0))), (1, .ref (ad (102))), (2, .ref (ad (103))), (3, .int (v3)), (4, .int (v4))]) hx hb dL_isLedger_107 hl (by decide) rfl (fun ls hl => ?_)
        refine lv_iconst (v := 0) hx hb dL_isLedger_109 (by decide) ?_
        refine lv_istore (lv' := [(7, .int (0)), (6, .int (0)), (5, .int (0)), (0, .ref (ad (0))), (1, .ref (ad (102))), (2, .ref (ad (103))), (3, .int (v3)), (4, .int (v4))]) hx hb dL_isLedger_110 hl (by decide) rfl (fun ls hl => ?_)
        obtain ⟨n9, hw⟩ := hw
        exact j_112  n9 (v3) (v4) (0) (0) (0) _ _ _ _ hw hP hS (lv_sub hl [3, 4, 5, 6, 7, 2, 1, 0] rfl)
      · have hw := hw.2 c16
        refine lv_iload hx hb dL_isLedger_72 (lv_at hl 4 rfl) ?_
        refine lv_if_eq (tgt := 94) hx hb dL_isLedger_74 (by decide) (fun c17 => ?_) (fun c17 => ?_)
        · have hw := hw.1 c17
          exact j_94 _ (ih) (v3) (v5) _ _ _ _ hw hP hS (lv_sub hl [0, 1, 2, 3, 5] rfl)
        · have hw := hw.2 c17
          refine lv_aload_n hx hb dL_isLedger_77 rfl (lv_at hl 0 rfl) ?_
          refine lv_iload hx hb dL_isLedger_78 (lv_at hl 5 rfl) ?_
          refine xg_calli (va_runV (As := [.int (v5)]) (rest := []) ⟨hx, hb, hml, hown, hts⟩ (c_X5_count l hl9 hA v5 hw) (cwV 1 hts gL_isLedger_X5_count rfl rfl rfl (by decide +kernel) ⟨Nat.le_of_ble_eq_true rfl, Nat.le_of_ble_eq_true rfl⟩) (xg_preV hB0 hP hK hN hS xs0 rfl) rfl rfl hl.1 rfl (lv_room (Nat.le_of_ble_eq_true rfl)) dL_isLedger_80 ⟨Nat.le_of_ble_eq_true rfl, Nat.le_of_ble_eq_true rfl⟩) hS (fun r18 h19 H locs hw hP hS => ?_)
          refine lv_aload_n hx hb dL_isLedger_83 rfl (lv_at hl 2 rfl) ?_
          refine lv_iload hx hb dL_isLedger_84 (lv_at hl 5 rfl) ?_
          obtain ⟨hi20, hw⟩ := hw
          refine xg_iald hx hb hK hP (xs103 had) hi20 dL_isLedger_86 ?_
          refine lv_icmp_ne (tgt := 94) hx hb dL_isLedger_87 (by decide) (fun c21 => ?_) (fun c21 => ?_)
          · have hw := hw.2 c21
            exact j_94 _ (ih) (v3) (v5) _ _ _ _ hw hP hS (lv_sub hl [0, 1, 2, 3, 5] rfl)
          · have hw := hw.1 c21
            refine lv_iconst (v := 1) hx hb dL_isLedger_90 (by decide) ?_
            refine lv_goto (tgt := 95) hx hb dL_isLedger_91 (by decide) ?_
            exact j_95 _ (ih) (v3) (v5) (1) _ _ _ _ hw hP hS (lv_sub hl [0, 1, 2, 3, 5] rfl)
  have j_26 : ∀ (n : Nat) (v3 : Int32) (v4 : Int32) (v5 : Int32) (h : xH) (H : Heap) (locs : List Loc) (ls : Array Slot), w_L_isLedger_26 K n v3 v4 v5 h → XP ad D T h H → va_S (fun q => B0 ≤ q) s.heap H locs → lv_has ls 8 [(0, .ref (ad (0))), (1, .ref (ad (102))), (2, .ref (ad (103))), (3, .int (v3)), (4, .int (v4)), (5, .int (v5))] → W p l e (headSpec wsL_isLedger ({ frames := 2, cells := 1, slots := 6, locals := 44 } : Room)).room s m ([.ref (ad (0)), .ref (ad (102))] : List Value).toArray below meth c H locs 1 6 (MQ below (XQ B0 ad D T xei K) ([.ref (ad (0)), .ref (ad (102))] : List Value).toArray s 1 6 (fun q => B0 ≤ q)) (F0 m 26 ls []) := by
    intro n
    induction n with
    | zero => intro v3 v4 v5 h H locs ls hw; exact hw.elim
    | succ n9 ih =>
      intro v3 v4 v5 h H locs ls hw hP hS hl 
      rw [w_L_isLedger_26_s] at hw
      refine lv_iload hx hb dL_isLedger_26 (lv_at hl 5 rfl) ?_
      refine lv_aload_n hx hb dL_isLedger_28 rfl (lv_at hl 1 rfl) ?_
      refine lv_iconst (v := 0) hx hb dL_isLedger_29 (by decide) ?_
      obtain ⟨hi5, hw⟩ := hw
      refine xg_iald hx hb hK hP xs102 hi5 dL_isLedger_30 ?_
      refine lv_icmp_ge (tgt := 63) hx hb dL_isLedger_31 (by decide) (fun c6 => ?_) (fun c6 => ?_)
      · have hw := hw.1 c6
        refine lv_iconst (v := 0) hx hb dL_isLedger_63 (by decide) ?_
        refine lv_istore (lv' := [(5, .int (0)), (0, .ref (ad (0))), (1, .ref (ad (102))), (2, .ref (ad (103))), (3, .int (v3)), (4, .int (v4))]) hx hb dL_isLedger_64 hl (by decide) rfl (fun ls hl => ?_)
        obtain ⟨n9, hw⟩ := hw
        exact j_66  n9 (v3) (v4) (0) _ _ _ _ hw hP hS (lv_sub hl [1, 2, 3, 4, 5, 0] rfl)
      · have hw := hw.2 c6
        refine lv_aload_n hx hb dL_isLedger_34 rfl (lv_at hl 2 rfl) ?_
        refine lv_aload_n hx hb dL_isLedger_35 rfl (lv_at hl 0 rfl) ?_
        refine lv_iload hx hb dL_isLedger_36 (lv_at hl 5 rfl) ?_
        refine xg_calli (va_runV (As := [.int (v5)]) (rest := [.ref (ad (103))]) ⟨hx, hb, hml, hown, hts⟩ (c_X5_fateOf l hl9 hA v5 hw) (cwV 1 hts gL_isLedger_X5_fateOf rfl rfl rfl (by decide +kernel) ⟨Nat.le_of_ble_eq_true rfl, Nat.le_of_ble_eq_true rfl⟩) (xg_preV hB0 hP hK hN hS xs0 rfl) rfl rfl hl.1 rfl (lv_room (Nat.le_of_ble_eq_true rfl)) dL_isLedger_38 ⟨Nat.le_of_ble_eq_true rfl, Nat.le_of_ble_eq_true rfl⟩) hS (fun r7 h8 H locs hw hP hS => ?_)
        refine lv_dup2_11 hx hb dL_isLedger_41 rfl rfl ?_
        obtain ⟨hi9, hw⟩ := hw
        refine xg_iald hx hb hK hP (xs103 had) hi9 dL_isLedger_42 ?_
        refine lv_iconst (v := 1) hx hb dL_isLedger_43 (by decide) ?_
        refine lv_iadd hx hb dL_isLedger_44 ?_
        obtain ⟨hi10, hw⟩ := hw
        refine xg_iast hx hb hK hP hA hS (xs103 had) hi10 dL_isLedger_45 (fun H locs h11 eh11 hP hS => ?_)
        have hw := hw h11 eh11
        refine lv_iload_n hx hb dL_isLedger_46 rfl (lv_at hl 3 rfl) ?_
        refine lv_aload_n hx hb dL_isLedger_47 rfl (lv_at hl 0 rfl) ?_
        refine lv_iload hx hb dL_isLedger_48 (lv_at hl 5 rfl) ?_
        refine xg_calli (va_runV (As := [.int (v5)]) (rest := [.int (v3)]) ⟨hx, hb, hml, hown, hts⟩ (c_X5_targetsOf l hl9 hA v5 hw) (cwV 1 hts gL_isLedger_X5_targetsOf rfl rfl rfl (by decide +kernel) ⟨Nat.le_of_ble_eq_true rfl, Nat.le_of_ble_eq_true rfl⟩) (xg_preV hB0 hP hK hN hS xs0 rfl) rfl rfl hl.1 rfl (lv_room (Nat.le_of_ble_eq_true rfl)) dL_isLedger_50 ⟨Nat.le_of_ble_eq_true rfl, Nat.le_of_ble_eq_true rfl⟩) hS (fun r12 h13 H locs hw hP hS => ?_)
        refine lv_iconst (v := 4) hx hb dL_isLedger_53 (by decide) ?_
        refine lv_ishr hx hb dL_isLedger_54 ?_
        refine lv_iadd hx hb dL_isLedger_55 ?_
        refine lv_topi (fun x14 ex14 => ?_)
        have hw := hw x14 ex14
        refine lv_istore_n (lv' := [(3, .int (x14)), (0, .ref (ad (0))), (1, .ref (ad (102))), (2, .ref (ad (103))), (4, .int (v4)), (5, .int (v5))]) hx hb dL_isLedger_56 rfl hl (by decide) rfl (fun ls hl => ?_)
        obtain ⟨x15, ex15⟩ : ∃ z : Int32, z = v5 + 1 := ⟨_, rfl⟩
        have hw := hw x15 ex15
        refine lv_iinc (v := x15) (lv' := [(5, .int (x15)), (3, .int (x14)), (0, .ref (ad (0))), (1, .ref (ad (102))), (2, .ref (ad (103))), (4, .int (v4))]) hx hb dL_isLedger_57 hl (k := 5) rfl (by rw [ex15]; rfl) (by decide) rfl (fun ls hl => ?_)
        refine lv_goto (tgt := 26) hx hb dL_isLedger_60 (by decide) ?_
        exact ih (x14) (v4) (x15) _ _ _ _ hw hP hS (lv_sub hl [2, 3, 4, 1, 5, 0] rfl)
  have j_21 : ∀ (v3 : Int32) (s0 : Int32) (h : xH) (H : Heap) (locs : List Loc) (ls : Array Slot), w_L_isLedger_21 K v3 s0 h → XP ad D T h H → va_S (fun q => B0 ≤ q) s.heap H locs → lv_has ls 8 [(0, .ref (ad (0))), (1, .ref (ad (102))), (2, .ref (ad (103))), (3, .int (v3))] → W p l e (headSpec wsL_isLedger ({ frames := 2, cells := 1, slots := 6, locals := 44 } : Room)).room s m ([.ref (ad (0)), .ref (ad (102))] : List Value).toArray below meth c H locs 1 6 (MQ below (XQ B0 ad D T xei K) ([.ref (ad (0)), .ref (ad (102))] : List Value).toArray s 1 6 (fun q => B0 ≤ q)) (F0 m 21 ls [.int (s0)]) := by
    intro v3 s0 h H locs ls hw hP hS hl 
    unfold w_L_isLedger_21 at hw
    refine lv_istore (lv' := [(4, .int (s0)), (0, .ref (ad (0))), (1, .ref (ad (102))), (2, .ref (ad (103))), (3, .int (v3))]) hx hb dL_isLedger_21 hl (by decide) rfl (fun ls hl => ?_)
    refine lv_iconst (v := 0) hx hb dL_isLedger_23 (by decide) ?_
    refine lv_istore (lv' := [(5, .int (0)), (4, .int (s0)), (0, .ref (ad (0))), (1, .ref (ad (102))), (2, .ref (ad (103))), (3, .int (v3))]) hx hb dL_isLedger_24 hl (by decide) rfl (fun ls hl => ?_)
    obtain ⟨n9, hw⟩ := hw
    exact j_26  n9 (v3) (s0) (0) _ _ _ _ hw hP hS (lv_sub hl [2, 3, 4, 5, 1, 0] rfl)
  unfold w_L_isLedger at hw
  refine lv_iconst (v := 0) hx hb dL_isLedger_4 (by decide) ?_
  refine lv_istore_n (lv' := [(3, .int (0)), (0, .ref (ad (0))), (1, .ref (ad (102))), (2, .ref (ad (103)))]) hx hb dL_isLedger_5 rfl hl (by decide) rfl (fun ls hl => ?_)
  refine lv_aload_n hx hb dL_isLedger_6 rfl (lv_at hl 1 rfl) ?_
  refine xg_calli (va_runV (As := []) (rest := []) ⟨hx, hb, hml, hown, hts⟩ (c_X5_messages l hl9 hA hw) (cwV 0 hts gL_isLedger_X5_messages rfl rfl rfl (by decide +kernel) ⟨Nat.le_of_ble_eq_true rfl, Nat.le_of_ble_eq_true rfl⟩) (xg_preV hB0 hP hK hN hS xs0 rfl) rfl rfl hl.1 rfl (lv_room (Nat.le_of_ble_eq_true rfl)) dL_isLedger_7 ⟨Nat.le_of_ble_eq_true rfl, Nat.le_of_ble_eq_true rfl⟩) hS (fun r1 h2 H locs hw hP hS => ?_)
  refine lv_aload_n hx hb dL_isLedger_10 rfl (lv_at hl 2 rfl) ?_
  refine lv_iconst (v := 0) hx hb dL_isLedger_11 (by decide) ?_
  obtain ⟨hi3, hw⟩ := hw
  refine xg_iald hx hb hK hP xs102 hi3 dL_isLedger_12 ?_
  refine lv_icmp_ne (tgt := 20) hx hb dL_isLedger_13 (by decide) (fun c4 => ?_) (fun c4 => ?_)
  · have hw := hw.2 c4
    refine lv_iconst (v := 0) hx hb dL_isLedger_20 (by decide) ?_
    exact j_21  (0) (0) _ _ _ _ hw hP hS (lv_sub hl [1, 2, 3, 0] rfl)
  · have hw := hw.1 c4
    refine lv_iconst (v := 1) hx hb dL_isLedger_16 (by decide) ?_
    refine lv_goto (tgt := 21) hx hb dL_isLedger_17 (by decide) ?_
    exact j_21  (0) (1) _ _ _ _ hw hP hS (lv_sub hl [1, 2, 3, 0] rfl)
