/-! THE START, II: what the tables and the Statement give; the law from its entry -/
theorem XI.warm {s U : State} (hW : s.WarmedH U.vm) (h : XI s) : XI U := ⟨h.1.warmM hW, h.2.1.warmM hW, h.2.2.1.warmM hW, h.2.2.2.1.warmM hW, h.2.2.2.2.1.moved hW.alike, h.2.2.2.2.2.1.moved hW.alike, h.2.2.2.2.2.2.moved hW.alike⟩
theorem xi_of {s : State} {b : Nat} (hts : ∀ w ∈ lw_tbl, w.before #[Value.ref b] s = true) : XI s :=
  ⟨va_Nw.of rfl (hts _ (by decide +kernel)), va_Nw.of rfl (hts _ (by decide +kernel)), va_Nw.of rfl (hts _ (by decide +kernel)), va_Nw.of rfl (hts _ (by decide +kernel)), va_AO.of (hts (.arrayOver (.object RX4)) (by decide +kernel)), va_AO.of (hts (.arrayOver (.object RX3)) (by decide +kernel)), va_AO.of (hts (.arrayOver (.object RX2)) (by decide +kernel))⟩
theorem xt_of {l : Launch} (h : l.flags = flags0) : l.stackTraces = false := by
  unfold Launch.stackTraces
  rw [h]
  decide +kernel
theorem xk_of {s : State} {b : Nat} (hts : ∀ w ∈ lw_tbl, w.before #[Value.ref b] s = true) : ∃ (D : va_G) (T : Nat → ClassId), XK D T s := by
  obtain ⟨c0, i0, k0⟩ := u_known (C := RX0) (T := TX0) (N := 6) (n := 6) hts inX0 (hts (.instantiable RX0 6) (by decide +kernel))
  obtain ⟨c1, i1, k1⟩ := u_known (C := RX1) (T := TX1) (N := 3) (n := 3) hts inX1 (hts (.instantiable RX1 3) (by decide +kernel))
  obtain ⟨c2, i2, k2⟩ := u_known (C := RX2) (T := TX2) (N := 10) (n := 10) hts inX2 (hts (.instantiable RX2 10) (by decide +kernel))
  obtain ⟨c3, i3, k3⟩ := u_known (C := RX3) (T := TX3) (N := 5) (n := 5) hts inX3 (hts (.instantiable RX3 5) (by decide +kernel))
  obtain ⟨c4, i4, k4⟩ := u_known (C := RX4) (T := TX4) (N := 9) (n := 9) hts inX4 (hts (.instantiable RX4 9) (by decide +kernel))
  obtain ⟨c5, i5, k5⟩ := u_known (C := RX5) (T := TX5) (N := 9) (n := 9) hts inX5 (hts (.instantiable RX5 9) (by decide +kernel))
  obtain ⟨t0, kA0, m0, a01, a02, a03⟩ := Cond.arrayClass_spec (hts (.arrayClass .int) (by decide +kernel))
  obtain ⟨m1, t1, kA1, a11, -, a13, a14, a15⟩ := Cond.arrayOver_spec (hts (.arrayOver (.object RX4)) (by decide +kernel))
  obtain ⟨m2, t2, kA2, a21, -, a23, a24, a25⟩ := Cond.arrayOver_spec (hts (.arrayOver (.object RX3)) (by decide +kernel))
  obtain ⟨m3, t3, kA3, a31, -, a33, a34, a35⟩ := Cond.arrayOver_spec (hts (.arrayOver (.object RX2)) (by decide +kernel))
  refine ⟨(fun k => match k with | 0 => c0 | 1 => c1 | 2 => c2 | 3 => c3 | 4 => c4 | _ => c5, fun k => match k with | 0 => i0 | 1 => i1 | 2 => i2 | 3 => i3 | 4 => i4 | _ => i5), (fun k => match k with | 0 => t0 | 1 => t1 | 2 => t2 | _ => t3), ⟨fun k q hq => ?_, fun k q hq => ?_⟩⟩
  · match k, hq with
    | 0, hq => cases hq; exact k0
    | 1, hq => cases hq; exact k1
    | 2, hq => cases hq; exact k2
    | 3, hq => cases hq; exact k3
    | 4, hq => cases hq; exact k4
    | 5, hq => cases hq; exact k5
    | k + 6, hq => simp [vwCl] at hq
  · match k, hq with
    | 0, hq => cases hq; exact ⟨fun N z => ⟨fun k h => (by cases h), kA0, a02, m0, a03⟩, a01⟩
    | 1, hq => cases hq; exact ⟨fun N z => ⟨fun k h => (by cases h), kA1, a13, m1, a14⟩, kA1, m1, a13, a14, a11, a15⟩
    | 2, hq => cases hq; exact ⟨fun N z => ⟨fun k h => (by cases h), kA2, a23, m2, a24⟩, kA2, m2, a23, a24, a21, a25⟩
    | 3, hq => cases hq; exact ⟨fun N z => ⟨fun k h => (by cases h), kA3, a33, m3, a34⟩, kA3, m3, a33, a34, a31, a35⟩
    | k + 4, hq => simp [xtys] at hq
set_option maxHeartbeats 8000000 in
set_option maxRecDepth 100000 in
theorem law_mid {p : Program} {l : Launch} {e : Env} {s : State} {m : MethodId} {below : List Frame} {meth : Method} {c : Code} {b L : Nat} {xs : Nat → Int32} {ad : Nat → Nat} {D : va_G} {T : Nat → ClassId} (C : LCx p l s m c b L xs ad D T) (hr : meth.sig.returnType = ret) (hlocks : meth.locks = false) {H : Heap} {locs : List Loc} {ls : Array Slot} (hP : XP ad D T hini H) (hS : va_S (fun q => s.heap.size ≤ q) s.heap H locs) (hl : lv_has ls 7 [(0, .ref b), (1, .ref (ad 0)), (2, .ref (ad 101)), (3, .ref (ad 102))]) : W p l e room_1 s m #[Value.ref b] below meth c H locs 35 3056 (lw_Z below #[Value.ref b] s) (F0 m 18 ls []) := by
  obtain ⟨hx, hb, hml, hown, hts, hX, hbl, hl9, hA, hK, hL, had⟩ := id C
  have hN : XN s.heap.size s s.heap := trivial
  have hB0 : s.heap.size ≤ s.heap.size := Nat.le_refl _
  have hbA : ¬ (fun q : Nat => s.heap.size ≤ q) b := Nat.not_le.mpr hbl
  refine lv_aload_n hx hb dL_law_18 rfl (lv_at hl 3 rfl) ?_
  refine lv_iconst (v := 2) hx hb dL_law_19 (by decide) ?_
  refine lv_iconst (v := 5) hx hb dL_law_20 (by decide) ?_
  refine xg_iast hx hb hK hP hA hS xs102 (vp_in_nI (n := 2) (by decide) (by decide)) dL_law_21 (fun H locs h1 e1 hP hS => ?_)
  subst e1
  refine lv_aload_n hx hb dL_law_22 rfl (lv_at hl 3 rfl) ?_
  refine lv_iconst (v := 3) hx hb dL_law_23 (by decide) ?_
  refine lv_bipush (v := 10) hx hb dL_law_24 (by decide) ?_
  refine xg_iast hx hb hK hP hA hS xs102 (vp_in_nI (n := 3) (by decide) (by decide)) dL_law_26 (fun H locs h2 e2 hP hS => ?_)
  subst e2
  refine lv_aload_n hx hb dL_law_27 rfl (lv_at hl 3 rfl) ?_
  refine lv_iconst (v := 4) hx hb dL_law_28 (by decide) ?_
  refine lv_bipush (v := 30) hx hb dL_law_29 (by decide) ?_
  refine xg_iast hx hb hK hP hA hS xs102 (vp_in_nI (n := 4) (by decide) (by decide)) dL_law_31 (fun H locs h3 e3 hP hS => ?_)
  subst e3
  refine lv_iconst (v := 0) hx hb dL_law_32 (by decide) ?_
  refine lv_istore (lv' := [(4, .int 0), (0, .ref b), (1, .ref (ad 0)), (2, .ref (ad 101)), (3, .ref (ad 102))]) hx hb dL_law_33 hl (by decide) rfl (fun ls hl => ?_)
  refine lv_iload hx hb dL_law_35 (lv_at hl 0 rfl) ?_
  refine lv_iconst (v := 4) hx hb dL_law_37 (by decide) ?_
  refine lv_icmp_ge (tgt := 65) hx hb dL_law_38 (by decide) (fun cz => absurd cz (by decide)) (fun _ => ?_)
  refine lv_aload_n hx hb dL_law_41 rfl (lv_at hl 4 rfl) ?_
  refine lv_bipush (v := 6) hx hb dL_law_42 (by decide) ?_
  refine lv_iload hx hb dL_law_44 (lv_at hl 0 rfl) ?_
  refine lv_iadd hx hb dL_law_46 ?_
  refine lv_iconst (v := 2) hx hb dL_law_47 (by decide) ?_
  refine xg_iast hx hb hK hP hA hS xs102 (vp_in_nI (n := 6) (by decide) (by decide)) dL_law_48 (fun H locs h4 e4 hP hS => ?_)
  subst e4
  refine lv_aload_n hx hb dL_law_49 rfl (lv_at hl 4 rfl) ?_
  refine lv_bipush (v := 10) hx hb dL_law_50 (by decide) ?_
  refine lv_iload hx hb dL_law_52 (lv_at hl 0 rfl) ?_
  refine lv_iadd hx hb dL_law_54 ?_
  refine lv_sipush (v := 1000) hx hb dL_law_55 (by decide) ?_
  refine xg_iast hx hb hK hP hA hS xs102 (vp_in_nI (n := 10) (by decide) (by decide)) dL_law_58 (fun H locs h5 e5 hP hS => ?_)
  subst e5
  refine lv_iinc (v := 1) (lv' := [(4, .int 1), (0, .ref b), (1, .ref (ad 0)), (2, .ref (ad 101)), (3, .ref (ad 102))]) hx hb dL_law_59 hl (k := 0) rfl (by decide) (by decide) rfl (fun ls hl => ?_)
  refine lv_goto (tgt := 35) hx hb dL_law_62 (by decide) ?_
  refine lv_iload hx hb dL_law_35 (lv_at hl 0 rfl) ?_
  refine lv_iconst (v := 4) hx hb dL_law_37 (by decide) ?_
  refine lv_icmp_ge (tgt := 65) hx hb dL_law_38 (by decide) (fun cz => absurd cz (by decide)) (fun _ => ?_)
  refine lv_aload_n hx hb dL_law_41 rfl (lv_at hl 4 rfl) ?_
  refine lv_bipush (v := 6) hx hb dL_law_42 (by decide) ?_
  refine lv_iload hx hb dL_law_44 (lv_at hl 0 rfl) ?_
  refine lv_iadd hx hb dL_law_46 ?_
  refine lv_iconst (v := 2) hx hb dL_law_47 (by decide) ?_
  refine xg_iast hx hb hK hP hA hS xs102 (vp_in_nI (n := 7) (by decide) (by decide)) dL_law_48 (fun H locs h6 e6 hP hS => ?_)
  subst e6
  refine lv_aload_n hx hb dL_law_49 rfl (lv_at hl 4 rfl) ?_
  refine lv_bipush (v := 10) hx hb dL_law_50 (by decide) ?_
  refine lv_iload hx hb dL_law_52 (lv_at hl 0 rfl) ?_
  refine lv_iadd hx hb dL_law_54 ?_
  refine lv_sipush (v := 1000) hx hb dL_law_55 (by decide) ?_
  refine xg_iast hx hb hK hP hA hS xs102 (vp_in_nI (n := 11) (by decide) (by decide)) dL_law_58 (fun H locs h7 e7 hP hS => ?_)
  subst e7
  refine lv_iinc (v := 2) (lv' := [(4, .int 2), (0, .ref b), (1, .ref (ad 0)), (2, .ref (ad 101)), (3, .ref (ad 102))]) hx hb dL_law_59 hl (k := 0) rfl (by decide) (by decide) rfl (fun ls hl => ?_)
  refine lv_goto (tgt := 35) hx hb dL_law_62 (by decide) ?_
  refine lv_iload hx hb dL_law_35 (lv_at hl 0 rfl) ?_
  refine lv_iconst (v := 4) hx hb dL_law_37 (by decide) ?_
  refine lv_icmp_ge (tgt := 65) hx hb dL_law_38 (by decide) (fun cz => absurd cz (by decide)) (fun _ => ?_)
  refine lv_aload_n hx hb dL_law_41 rfl (lv_at hl 4 rfl) ?_
  refine lv_bipush (v := 6) hx hb dL_law_42 (by decide) ?_
  refine lv_iload hx hb dL_law_44 (lv_at hl 0 rfl) ?_
  refine lv_iadd hx hb dL_law_46 ?_
  refine lv_iconst (v := 2) hx hb dL_law_47 (by decide) ?_
  refine xg_iast hx hb hK hP hA hS xs102 (vp_in_nI (n := 8) (by decide) (by decide)) dL_law_48 (fun H locs h8 e8 hP hS => ?_)
  subst e8
  refine lv_aload_n hx hb dL_law_49 rfl (lv_at hl 4 rfl) ?_
  refine lv_bipush (v := 10) hx hb dL_law_50 (by decide) ?_
  refine lv_iload hx hb dL_law_52 (lv_at hl 0 rfl) ?_
  refine lv_iadd hx hb dL_law_54 ?_
  refine lv_sipush (v := 1000) hx hb dL_law_55 (by decide) ?_
  refine xg_iast hx hb hK hP hA hS xs102 (vp_in_nI (n := 12) (by decide) (by decide)) dL_law_58 (fun H locs h9 e9 hP hS => ?_)
  subst e9
  refine lv_iinc (v := 3) (lv' := [(4, .int 3), (0, .ref b), (1, .ref (ad 0)), (2, .ref (ad 101)), (3, .ref (ad 102))]) hx hb dL_law_59 hl (k := 0) rfl (by decide) (by decide) rfl (fun ls hl => ?_)
  refine lv_goto (tgt := 35) hx hb dL_law_62 (by decide) ?_
  refine lv_iload hx hb dL_law_35 (lv_at hl 0 rfl) ?_
  refine lv_iconst (v := 4) hx hb dL_law_37 (by decide) ?_
  refine lv_icmp_ge (tgt := 65) hx hb dL_law_38 (by decide) (fun cz => absurd cz (by decide)) (fun _ => ?_)
  refine lv_aload_n hx hb dL_law_41 rfl (lv_at hl 4 rfl) ?_
  refine lv_bipush (v := 6) hx hb dL_law_42 (by decide) ?_
  refine lv_iload hx hb dL_law_44 (lv_at hl 0 rfl) ?_
  refine lv_iadd hx hb dL_law_46 ?_
  refine lv_iconst (v := 2) hx hb dL_law_47 (by decide) ?_
  refine xg_iast hx hb hK hP hA hS xs102 (vp_in_nI (n := 9) (by decide) (by decide)) dL_law_48 (fun H locs h10 e10 hP hS => ?_)
  subst e10
  refine lv_aload_n hx hb dL_law_49 rfl (lv_at hl 4 rfl) ?_
  refine lv_bipush (v := 10) hx hb dL_law_50 (by decide) ?_
  refine lv_iload hx hb dL_law_52 (lv_at hl 0 rfl) ?_
  refine lv_iadd hx hb dL_law_54 ?_
  refine lv_sipush (v := 1000) hx hb dL_law_55 (by decide) ?_
  refine xg_iast hx hb hK hP hA hS xs102 (vp_in_nI (n := 13) (by decide) (by decide)) dL_law_58 (fun H locs h11 e11 hP hS => ?_)
  subst e11
  refine lv_iinc (v := 4) (lv' := [(4, .int 4), (0, .ref b), (1, .ref (ad 0)), (2, .ref (ad 101)), (3, .ref (ad 102))]) hx hb dL_law_59 hl (k := 0) rfl (by decide) (by decide) rfl (fun ls hl => ?_)
  refine lv_goto (tgt := 35) hx hb dL_law_62 (by decide) ?_
  refine lv_iload hx hb dL_law_35 (lv_at hl 0 rfl) ?_
  refine lv_iconst (v := 4) hx hb dL_law_37 (by decide) ?_
  refine lv_icmp_ge (tgt := 65) hx hb dL_law_38 (by decide) (fun _ => ?_) (fun cz => absurd (by decide) cz)
  have hP : XP ad D T hst H := hP
  refine lv_aload_n hx hb dL_law_65 rfl (lv_at hl 2 rfl) ?_
  refine xg_calli (va_runV (As := []) (rest := []) ⟨hx, hb, hml, hown, hts⟩ (c_X5_time l hl9 hA (h := hst) (K := fun r h1 => r = 0 ∧ h1 = hst) (show _ ∧ _ from ⟨by decide +kernel, rfl⟩)) (cwV 0 hts gL_law_X5_time rfl rfl rfl (by decide +kernel) ⟨Nat.le_of_ble_eq_true rfl, Nat.le_of_ble_eq_true rfl⟩) (xg_preV hB0 hP hK hN hS xs0 rfl) rfl rfl hl.1 rfl (lv_room (Nat.le_of_ble_eq_true rfl)) dL_law_66 ⟨Nat.le_of_ble_eq_true rfl, Nat.le_of_ble_eq_true rfl⟩) hS (fun r h1 H locs hw hP hS => ?_)
  obtain ⟨rfl, hh⟩ := hw
  rw [hh] at hP
  clear hh h1
  refine lv_if_ne (tgt := 123) hx hb dL_law_69 (by decide) (fun cz => absurd rfl cz) (fun _ => ?_)
  refine lv_aload_n hx hb dL_law_72 rfl (lv_at hl 2 rfl) ?_
  refine xg_calli (va_runV (As := []) (rest := []) ⟨hx, hb, hml, hown, hts⟩ (c_X5_messages l hl9 hA (h := hst) (K := fun r h1 => r = 0 ∧ h1 = hst) (show _ ∧ _ from ⟨by decide +kernel, rfl⟩)) (cwV 0 hts gL_law_X5_messages rfl rfl rfl (by decide +kernel) ⟨Nat.le_of_ble_eq_true rfl, Nat.le_of_ble_eq_true rfl⟩) (xg_preV hB0 hP hK hN hS xs0 rfl) rfl rfl hl.1 rfl (lv_room (Nat.le_of_ble_eq_true rfl)) dL_law_73 ⟨Nat.le_of_ble_eq_true rfl, Nat.le_of_ble_eq_true rfl⟩) hS (fun r h1 H locs hw hP hS => ?_)
  obtain ⟨rfl, hh⟩ := hw
  rw [hh] at hP
  clear hh h1
  refine lv_if_ne (tgt := 123) hx hb dL_law_76 (by decide) (fun cz => absurd rfl cz) (fun _ => ?_)
  refine lv_aload_n hx hb dL_law_79 rfl (lv_at hl 2 rfl) ?_
  refine xg_calli (va_runV (As := []) (rest := []) ⟨hx, hb, hml, hown, hts⟩ (c_X5_queued l hl9 hA (h := hst) (K := fun r h1 => r = 0 ∧ h1 = hst) (C_que ⟨by decide +kernel, rfl⟩)) (cwV 0 hts gL_law_X5_queued rfl rfl rfl (by decide +kernel) ⟨Nat.le_of_ble_eq_true rfl, Nat.le_of_ble_eq_true rfl⟩) (xg_preV hB0 hP hK hN hS xs0 rfl) rfl rfl hl.1 rfl (lv_room (Nat.le_of_ble_eq_true rfl)) dL_law_80 ⟨Nat.le_of_ble_eq_true rfl, Nat.le_of_ble_eq_true rfl⟩) hS (fun r h1 H locs hw hP hS => ?_)
  obtain ⟨rfl, hh⟩ := hw
  rw [hh] at hP
  clear hh h1
  refine lv_if_ne (tgt := 123) hx hb dL_law_83 (by decide) (fun cz => absurd rfl cz) (fun _ => ?_)
  refine lv_aload_n hx hb dL_law_86 rfl (lv_at hl 2 rfl) ?_
  refine xg_calli (va_runV (As := []) (rest := []) ⟨hx, hb, hml, hown, hts⟩ (c_X5_lost l hl9 hA (h := hst) (K := fun r h1 => r = 0 ∧ h1 = hst) (C_los ⟨by decide +kernel, rfl⟩)) (cwV 0 hts gL_law_X5_lost rfl rfl rfl (by decide +kernel) ⟨Nat.le_of_ble_eq_true rfl, Nat.le_of_ble_eq_true rfl⟩) (xg_preV hB0 hP hK hN hS xs0 rfl) rfl rfl hl.1 rfl (lv_room (Nat.le_of_ble_eq_true rfl)) dL_law_87 ⟨Nat.le_of_ble_eq_true rfl, Nat.le_of_ble_eq_true rfl⟩) hS (fun r h1 H locs hw hP hS => ?_)
  obtain ⟨rfl, hh⟩ := hw
  rw [hh] at hP
  clear hh h1
  refine lv_if_ne (tgt := 123) hx hb dL_law_90 (by decide) (fun cz => absurd rfl cz) (fun _ => ?_)
  refine lv_aload_n hx hb dL_law_93 rfl (lv_at hl 2 rfl) ?_
  refine lv_iconst (v := 5) hx hb dL_law_94 (by decide) ?_
  refine xg_calli (va_runV (As := [.int (5)]) (rest := []) ⟨hx, hb, hml, hown, hts⟩ (c_X5_tokens l hl9 hA (5) (h := hst) (K := fun r h1 => r = 5 ∧ h1 = hst) (C_tok (s := 5) rfl (by decide) ⟨by decide +kernel, rfl⟩)) (cwV 1 hts gL_law_X5_tokens rfl rfl rfl (by decide +kernel) ⟨Nat.le_of_ble_eq_true rfl, Nat.le_of_ble_eq_true rfl⟩) (xg_preV hB0 hP hK hN hS xs0 rfl) rfl rfl hl.1 rfl (lv_room (Nat.le_of_ble_eq_true rfl)) dL_law_95 ⟨Nat.le_of_ble_eq_true rfl, Nat.le_of_ble_eq_true rfl⟩) hS (fun r h1 H locs hw hP hS => ?_)
  obtain ⟨rfl, hh⟩ := hw
  rw [hh] at hP
  clear hh h1
  refine lv_iconst (v := 5) hx hb dL_law_98 (by decide) ?_
  refine lv_icmp_ne (tgt := 123) hx hb dL_law_99 (by decide) (fun cz => absurd rfl cz) (fun _ => ?_)
  refine lv_aload_n hx hb dL_law_102 rfl (lv_at hl 2 rfl) ?_
  refine lv_iconst (v := 3) hx hb dL_law_103 (by decide) ?_
  refine lv_iconst (v := (-1)) hx hb dL_law_104 (by decide) ?_
  refine xg_calli (va_runV (As := [.int (3), .int ((-1))]) (rest := []) ⟨hx, hb, hml, hown, hts⟩ (c_X5_lines l hl9 hA (3) ((-1)) (h := hst) (K := fun r h1 => r = 0 ∧ h1 = hst) (C_lns (q := 3) (j := 0) (og := 0) rfl rfl (by decide) (by decide) (by decide) (by decide +kernel) ⟨by decide +kernel, rfl⟩)) (cwV 2 hts gL_law_X5_lines rfl rfl rfl (by decide +kernel) ⟨Nat.le_of_ble_eq_true rfl, Nat.le_of_ble_eq_true rfl⟩) (xg_preV hB0 hP hK hN hS xs0 rfl) rfl rfl hl.1 rfl (lv_room (Nat.le_of_ble_eq_true rfl)) dL_law_105 ⟨Nat.le_of_ble_eq_true rfl, Nat.le_of_ble_eq_true rfl⟩) hS (fun r h1 H locs hw hP hS => ?_)
  obtain ⟨rfl, hh⟩ := hw
  rw [hh] at hP
  clear hh h1
  refine lv_if_ne (tgt := 123) hx hb dL_law_108 (by decide) (fun cz => absurd rfl cz) (fun _ => ?_)
  refine lv_aload_n hx hb dL_law_111 rfl (lv_at hl 2 rfl) ?_
  refine lv_iconst (v := 0) hx hb dL_law_112 (by decide) ?_
  refine xg_calli (va_runV (As := [.int (0)]) (rest := []) ⟨hx, hb, hml, hown, hts⟩ (c_X5_generations l hl9 hA (0) (h := hst) (K := fun r h1 => r = 0 ∧ h1 = hst) (C_gen (s := 0) rfl (by decide) ⟨by decide +kernel, rfl⟩)) (cwV 1 hts gL_law_X5_generations rfl rfl rfl (by decide +kernel) ⟨Nat.le_of_ble_eq_true rfl, Nat.le_of_ble_eq_true rfl⟩) (xg_preV hB0 hP hK hN hS xs0 rfl) rfl rfl hl.1 rfl (lv_room (Nat.le_of_ble_eq_true rfl)) dL_law_113 ⟨Nat.le_of_ble_eq_true rfl, Nat.le_of_ble_eq_true rfl⟩) hS (fun r h1 H locs hw hP hS => ?_)
  obtain ⟨rfl, hh⟩ := hw
  rw [hh] at hP
  clear hh h1
  refine lv_if_ne (tgt := 123) hx hb dL_law_116 (by decide) (fun cz => absurd rfl cz) (fun _ => ?_)
  refine lv_iconst (v := 1) hx hb dL_law_119 (by decide) ?_
  refine lv_goto (tgt := 124) hx hb dL_law_120 (by decide) ?_
  refine lv_istore (lv' := [(4, .int 1), (0, .ref b), (1, .ref (ad 0)), (2, .ref (ad 101)), (3, .ref (ad 102))]) hx hb dL_law_124 hl (by decide) rfl (fun ls hl => ?_)
  have e3 : nI L / 3 = nI (L / 3) := pk_div (d := 3) (by omega) (by decide) (by decide)
  have h86 : L / 3 ≤ 86 := by omega
  refine lv_aload_n hx hb dL_law_126 rfl (lv_at hl 1 rfl) ?_
  refine va_slen hx hb hX hbl hbA hS dL_law_127 ?_
  refine lv_iconst (v := 3) hx hb dL_law_128 (by decide) ?_
  refine lv_idiv hx hb dL_law_129 (by decide) ?_
  refine lv_bipush (v := 100) hx hb dL_law_130 (by decide) ?_
  refine lv_icmp_le (tgt := 140) hx hb dL_law_132 (by decide) (fun _ => ?_) (fun cz => absurd (show nI L / 3 ≤ 100 from by rw [e3]; exact nI_le (show L / 3 ≤ 100 by omega) (by decide)) cz)
  refine lv_aload_n hx hb dL_law_140 rfl (lv_at hl 1 rfl) ?_
  refine va_slen hx hb hX hbl hbA hS dL_law_141 ?_
  refine lv_iconst (v := 3) hx hb dL_law_142 (by decide) ?_
  refine lv_idiv hx hb dL_law_143 (by decide) ?_
  rw [show Int32.ofNat L / 3 = nI (L / 3) from e3]
  refine lv_istore (lv' := [(5, .int (nI (L / 3))), (4, .int 1), (0, .ref b), (1, .ref (ad 0)), (2, .ref (ad 101)), (3, .ref (ad 102))]) hx hb dL_law_144 hl (by decide) rfl (fun ls hl => ?_)
  refine lv_iconst (v := 0) hx hb dL_law_146 (by decide) ?_
  refine lv_istore (lv' := [(6, .int (nI 0)), (5, .int (nI (L / 3))), (4, .int 1), (0, .ref b), (1, .ref (ad 0)), (2, .ref (ad 101)), (3, .ref (ad 102))]) hx hb dL_law_147 hl (by decide) rfl (fun ls hl => ?_)
  exact law_loop C hr hlocks (st := L / 3) (by omega) (L / 3) 0 _ _ hst H _ ls (by omega) (by omega) (by omega) hs_IV hP hS hl
set_option maxHeartbeats 8000000 in
set_option maxRecDepth 100000 in
/-- THE LAW, from its entry -/
theorem whole_start {p : Program} {e : Env} {s : State} {m : MethodId} {below : List Frame} {meth : Method} {c : Code} (l : Launch) (hflags : l.flags = flags0) {b L : Nat} {xs : Nat → Int32} (hL : L ≤ 260) (C0 : lw_At p s m meth c b L xs) : W p l e room_1 s m #[Value.ref b] below meth c s.heap [] 0 0 (lw_Z below #[Value.ref b] s) (entryFrame m ([Value.ref b] : List Value).toArray 7) := by
  obtain ⟨hx, hb, hr, hml, hown, hts0, hX, hbl, hlocks, hgv⟩ := id C0
  have hl9 := xt_of hflags
  have hI := xi_of hts0
  obtain ⟨D, T, hK⟩ := xk_of hts0
  have hts : ∀ w ∈ wsL_law, w.before #[Value.ref b] s = true := fun w h => hts0 w (wsL_law_in w h)
  have hown : s.vm.findClass RL = some m.cls := hown
  have hb : c.code = cL_law := hb
  have hA : ∀ q : Nat, s.heap.size ≤ q → (fun q : Nat => s.heap.size ≤ q) q := fun _ h => h
  have hS : va_S (fun q : Nat => s.heap.size ≤ q) s.heap s.heap [] := va_S.rf
  have hP : va_P D vwCl [] s.heap := fun k q h => by simp at h
  have hD : va_D (fun q : Nat => s.heap.size ≤ q) [] := ⟨fun i j p q h => by simp at h, fun k q h => by simp at h⟩
  have hl := lv_entry ([.ref b]) (n := 7) (Nat.le_of_ble_eq_true rfl)
  rw [lg_entry_eq]
  generalize (lg_sl ([.ref b]) ++ List.replicate (7 - (lg_sl ([.ref b])).length) Slot.unset).toArray = ls at hl ⊢
  have hl : lv_has ls 7 [(0, .ref b)] := hl
  refine va_new (ci := 5) (fs := [.null, .null, .null, .null, .null, .int 0, .int 0, .int 0, .int 0]) (C := RX5) (T := TX5) (N := 9) hx hb hts inlX5 tyX5 tyX5_ok hown (hts (.classLink RL 11 RX5) (by decide +kernel)) (hts (.instantiable RX5 9) (by decide +kernel)) (hts (.initialized RX5) (by decide +kernel)) hK hP hD hS hA rfl nwX5 (Nat.le_of_ble_eq_true rfl) (Nat.le_of_ble_eq_true rfl) dL_law_0 (fun q5 H hP hD hS => ?_)
  have hP : va_P D vwCl [(q5, .inr (5, [.null, .null, .null, .null, .null, .int 0, .int 0, .int 0, .int 0]))] H := hP
  have hD : va_D (fun q : Nat => s.heap.size ≤ q) [(q5, .inr (5, [.null, .null, .null, .null, .null, .int 0, .int 0, .int 0, .int 0]))] := hD
  refine W.widen (k := 1) (n := 9) (Nat.le_of_ble_eq_true rfl) (Nat.le_of_ble_eq_true rfl) ?_
  refine lv_dup hx hb dL_law_3 rfl ?_
  have hPc := hP.sub (ws' := [(q5, .inr (5, [.null, .null, .null, .null, .null, .int 0, .int 0, .int 0, .int 0]))]) [0] rfl
  have hDc := hD.sub (ws' := [(q5, .inr (5, [.null, .null, .null, .null, .null, .int 0, .int 0, .int 0, .int 0]))]) [0] (by decide) rfl
  have hFc := va_free (wc := [(q5, .inr (5, [.null, .null, .null, .null, .null, .int 0, .int 0, .int 0, .int 0]))]) hD hS hA [0] rfl
  refine va_callv (va_runI (As := []) (rest := [.ref q5]) ⟨hx, hb, hml, hown, hts⟩ (k_X5_init l D T q5 H.size) (cwI 0 hts gL_law_X5_init rfl rfl rfl (hts (.initialized RX5) (by decide +kernel)) (hts (.methodLink RL 113 yX5_init) (by decide +kernel)) (hts (.instanceMethod yX5_init) (by decide +kernel)) rfl (by decide +kernel) ⟨Nat.le_of_ble_eq_true rfl, Nat.le_of_ble_eq_true rfl⟩) ⟨fun a U g mk q => by obtain ⟨q0, q1, qP, qK, qD, qI⟩ := q; exact ⟨q0, q1, qP, va_K.moved (u := U) (U := U.calling g mk a) (Vm.Alike.refl U.vm) qK, qD, XI.warm (s := U) (U := U.calling g mk a) (State.WarmedH.refl U) qI⟩, fun U hU hW => ⟨rfl, by rw [hU], by rw [hU]; exact hPc, va_K.moved hW.alike hK, hDc.weaken (fun _ _ _ _ => trivial), hI.warm hW⟩⟩ rfl rfl hl.1 rfl (lv_room (Nat.le_of_ble_eq_true rfl)) dL_law_4 ⟨Nat.le_of_ble_eq_true rfl, Nat.le_of_ble_eq_true rfl⟩) hS (fun q _ h => hFc q h) hFc (fun u t H1 locs ht hvm hwu hB hz1 hk1 hS => ?_)
  obtain ⟨hP1, hK1, hD1⟩ := hB
  rw [ht] at hP1
  have hP1 : va_P D vwCl (WS5 T u) H1 := hP1
  have hD1 : va_D _ (WS5 T u) := hD1
  obtain ⟨hP, hD⟩ := va_join (wr := []) (w1 := WS5 T u) hP hD [0] [] rfl rfl (by decide) (by decide) hk1 hFc hP1 hD1
  generalize H1 = H at hP hS ⊢
  have hP : va_P D vwCl (WS5 T u) H := hP
  have hD : va_D (fun q : Nat => s.heap.size ≤ q) (WS5 T u) := hD
  refine W.widen (k := 33) (n := 2982) (Nat.le_of_ble_eq_true rfl) (Nat.le_of_ble_eq_true rfl) ?_
  refine lv_astore_n (lv' := [(1, .ref q5), (0, .ref b)]) hx hb dL_law_7 rfl hl (by decide) rfl (fun ls hl => ?_)
  refine lv_bipush (v := 60) hx hb dL_law_8 (by decide) ?_
  refine xnewa hx hb (atype := .int) (hts (.arrayClass .int) (by decide +kernel)) rfl hK hP hD hS hA 0 rfl (a0 := (60, .inl (fun _ => 0))) (fun cA => rfl) (by decide) rfl (Nat.le_of_ble_eq_true rfl) (Nat.le_of_ble_eq_true rfl) (Nat.le_of_ble_eq_true rfl) dL_law_10 (fun qg H hP hD hS => ?_)
  refine W.widen (k := 34) (n := 3042) (Nat.le_of_ble_eq_true rfl) (Nat.le_of_ble_eq_true rfl) ?_
  refine lv_astore_n (lv' := [(2, .ref qg), (1, .ref q5), (0, .ref b)]) hx hb dL_law_12 rfl hl (by decide) rfl (fun ls hl => ?_)
  refine lv_bipush (v := 14) hx hb dL_law_13 (by decide) ?_
  refine xnewa hx hb (atype := .int) (hts (.arrayClass .int) (by decide +kernel)) rfl hK hP hD hS hA 0 rfl (a0 := (14, .inl (fun _ => 0))) (fun cA => rfl) (by decide) rfl (Nat.le_of_ble_eq_true rfl) (Nat.le_of_ble_eq_true rfl) (Nat.le_of_ble_eq_true rfl) dL_law_15 (fun qc H hP hD hS => ?_)
  refine W.widen (k := 35) (n := 3056) (Nat.le_of_ble_eq_true rfl) (Nat.le_of_ble_eq_true rfl) ?_
  refine lv_astore_n (lv' := [(3, .ref qc), (2, .ref qg), (1, .ref q5), (0, .ref b)]) hx hb dL_law_17 rfl hl (by decide) rfl (fun ls hl => ?_)
  have hP : va_P D vwCl (WSI T u qg qc) H := hP
  have hD : va_D (fun q : Nat => s.heap.size ≤ q) (WSI T u qg qc) := hD
  have hXP := xp_of hP
  have hXA := xa_of hD
  subst hwu
  have hl2 := lv_sub (l' := [(0, .ref b), (1, .ref (adI u qg qc 0)), (2, .ref (adI u qg qc 101)), (3, .ref (adI u qg qc 102))]) hl [3, 2, 1, 0] rfl
  exact law_mid (ad := adI u qg qc) ⟨hx, hb, hml, hown, hts, hX, hbl, hl9, hXA, hK, hL, adI_103⟩ hr hlocks hXP hS hl2
