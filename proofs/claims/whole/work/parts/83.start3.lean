/-! THE START, III: what the tables and the Statement give; the law from its entry -/
theorem XI.warm {s U : State} (hW : s.WarmedH U.vm) (h : XI s) : XI U := ⟨h.1.warmM hW, h.2.1.warmM hW, h.2.2.1.warmM hW, h.2.2.2.1.warmM hW, h.2.2.2.2.1.moved hW.alike, h.2.2.2.2.2.1.moved hW.alike, h.2.2.2.2.2.2.moved hW.alike⟩
theorem xi_of {s : State} {b : Nat} (hts : ∀ w ∈ lw_tbl, w.before #[Value.ref b] s = true) : XI s :=
  ⟨va_Nw.of rfl (hts _ (by decide +kernel)), va_Nw.of rfl (hts _ (by decide +kernel)), va_Nw.of rfl (hts _ (by decide +kernel)), va_Nw.of rfl (hts _ (by decide +kernel)), va_AO.of (hts (.arrayOver (.object RX4)) (by decide +kernel)), va_AO.of (hts (.arrayOver (.object RX3)) (by decide +kernel)), va_AO.of (hts (.arrayOver (.object RX2)) (by decide +kernel))⟩
theorem xt_of {l : Launch} (h : l.flags = flags0) : l.stackTraces = false := by
  unfold Launch.stackTraces
  rw [h]
  decide +kernel
theorem xn_of {s : State} {b : Nat} (hts : ∀ w ∈ lw_tbl, w.before #[Value.ref b] s = true) (hgv : (Jvm.Cond.and given_1 narrow_1).before #[Value.ref b] s = true) : XN s.heap.size s s.heap := by
  have hs := flat_of_before _ hgv
  refine ⟨?_, ?_, ?_, ?_, ?_⟩
  · intro w hw
    simp only [xnw, List.mem_cons, List.not_mem_nil, or_false] at hw
    rcases hw with rfl | rfl | rfl | rfl | rfl | rfl <;> exact va_Nw.of rfl (hts _ (by decide +kernel))
  · intro q hq
    simp only [xncs, List.mem_cons, List.not_mem_nil, or_false] at hq
    rcases hq with rfl | rfl | rfl <;> exact va_Nc.of (hs _ (by decide +kernel))
  · intro q hq
    simp only [xstr, List.mem_cons, List.not_mem_nil, or_false] at hq
    rcases hq with rfl | rfl | rfl | rfl | rfl | rfl | rfl | rfl | rfl | rfl | rfl | rfl | rfl | rfl | rfl | rfl | rfl | rfl | rfl
    · obtain ⟨a, -, -, -, q1, -⟩ := Cond.exactly_spec (hs (.exactly (.string "LogSpooler" 65) "java/lang/String") (by decide +kernel)); exact ⟨a, vk_R.of (hts (.stringRef "LogSpooler" 65 "burst or seconds is out of range") (by decide +kernel)) q1⟩
    · obtain ⟨a, -, -, -, q1, -⟩ := Cond.exactly_spec (hs (.exactly (.string "LogSpooler" 74) "java/lang/String") (by decide +kernel)); exact ⟨a, vk_R.of (hts (.stringRef "LogSpooler" 74 "seconds is out of range") (by decide +kernel)) q1⟩
    · obtain ⟨a, -, -, -, q1, -⟩ := Cond.exactly_spec (hs (.exactly (.string "LogSpooler" 247) "java/lang/String") (by decide +kernel)); exact ⟨a, vk_R.of (hts (.stringRef "LogSpooler" 247 "no such rule") (by decide +kernel)) q1⟩
    · obtain ⟨a, -, -, -, q1, -⟩ := Cond.exactly_spec (hs (.exactly (.string "LogSpooler" 82) "java/lang/String") (by decide +kernel)); exact ⟨a, vk_R.of (hts (.stringRef "LogSpooler" 82 "no such sender, nor any") (by decide +kernel)) q1⟩
    · obtain ⟨a, -, -, -, q1, -⟩ := Cond.exactly_spec (hs (.exactly (.string "LogSpooler" 85) "java/lang/String") (by decide +kernel)); exact ⟨a, vk_R.of (hts (.stringRef "LogSpooler" 85 "facilities, severity or target is out of range") (by decide +kernel)) q1⟩
    · obtain ⟨a, -, -, -, q1, -⟩ := Cond.exactly_spec (hs (.exactly (.string "LogSpooler" 249) "java/lang/String") (by decide +kernel)); exact ⟨a, vk_R.of (hts (.stringRef "LogSpooler" 249 "no such file") (by decide +kernel)) q1⟩
    · obtain ⟨a, -, -, -, q1, -⟩ := Cond.exactly_spec (hs (.exactly (.string "LogSpooler" 103) "java/lang/String") (by decide +kernel)); exact ⟨a, vk_R.of (hts (.stringRef "LogSpooler" 103 "size, age or kept is out of range") (by decide +kernel)) q1⟩
    · obtain ⟨a, -, -, -, q1, -⟩ := Cond.exactly_spec (hs (.exactly (.string "LogSpooler" 245) "java/lang/String") (by decide +kernel)); exact ⟨a, vk_R.of (hts (.stringRef "LogSpooler" 245 "no such sender") (by decide +kernel)) q1⟩
    · obtain ⟨a, -, -, -, q1, -⟩ := Cond.exactly_spec (hs (.exactly (.string "LogSpooler" 116) "java/lang/String") (by decide +kernel)); exact ⟨a, vk_R.of (hts (.stringRef "LogSpooler" 116 "facility, severity, text or length is out of range") (by decide +kernel)) q1⟩
    · obtain ⟨a, -, -, -, q1, -⟩ := Cond.exactly_spec (hs (.exactly (.string "LogSpooler" 124) "java/lang/String") (by decide +kernel)); exact ⟨a, vk_R.of (hts (.stringRef "LogSpooler" 124 "no more messages can come") (by decide +kernel)) q1⟩
    · obtain ⟨a, -, -, -, q1, -⟩ := Cond.exactly_spec (hs (.exactly (.string "LogSpooler" 170) "java/lang/String") (by decide +kernel)); exact ⟨a, vk_R.of (hts (.stringRef "LogSpooler" 170 "the file has no lines") (by decide +kernel)) q1⟩
    · obtain ⟨a, -, -, -, q1, -⟩ := Cond.exactly_spec (hs (.exactly (.string "LogSpooler" 181) "java/lang/String") (by decide +kernel)); exact ⟨a, vk_R.of (hts (.stringRef "LogSpooler" 181 "it is connected") (by decide +kernel)) q1⟩
    · obtain ⟨a, -, -, -, q1, -⟩ := Cond.exactly_spec (hs (.exactly (.string "LogSpooler" 186) "java/lang/String") (by decide +kernel)); exact ⟨a, vk_R.of (hts (.stringRef "LogSpooler" 186 "it is not connected") (by decide +kernel)) q1⟩
    · obtain ⟨a, -, -, -, q1, -⟩ := Cond.exactly_spec (hs (.exactly (.string "LogSpooler" 197) "java/lang/String") (by decide +kernel)); exact ⟨a, vk_R.of (hts (.stringRef "LogSpooler" 197 "it is not connected, none is queued, or 5 are in flight") (by decide +kernel)) q1⟩
    · obtain ⟨a, -, -, -, q1, -⟩ := Cond.exactly_spec (hs (.exactly (.string "LogSpooler" 202) "java/lang/String") (by decide +kernel)); exact ⟨a, vk_R.of (hts (.stringRef "LogSpooler" 202 "none is in flight") (by decide +kernel)) q1⟩
    · obtain ⟨a, -, -, -, q1, -⟩ := Cond.exactly_spec (hs (.exactly (.string "LogSpooler" 214) "java/lang/String") (by decide +kernel)); exact ⟨a, vk_R.of (hts (.stringRef "LogSpooler" 214 "no such generation") (by decide +kernel)) q1⟩
    · obtain ⟨a, -, -, -, q1, -⟩ := Cond.exactly_spec (hs (.exactly (.string "LogSpooler" 220) "java/lang/String") (by decide +kernel)); exact ⟨a, vk_R.of (hts (.stringRef "LogSpooler" 220 "no such place") (by decide +kernel)) q1⟩
    · obtain ⟨a, -, -, -, q1, -⟩ := Cond.exactly_spec (hs (.exactly (.string "LogSpooler" 232) "java/lang/String") (by decide +kernel)); exact ⟨a, vk_R.of (hts (.stringRef "LogSpooler" 232 "no such message") (by decide +kernel)) q1⟩
    · obtain ⟨a, -, -, -, q1, -⟩ := Cond.exactly_spec (hs (.exactly (.string "LogSpooler" 237) "java/lang/String") (by decide +kernel)); exact ⟨a, vk_R.of (hts (.stringRef "LogSpooler" 237 "no such fate") (by decide +kernel)) q1⟩
  · exact vx_Zqof (hts (.laysStatic Bundle.tN "UNASSIGNED_STACK" Bundle.steD) (by decide +kernel)) (hts (.initialized Bundle.tN) (by decide +kernel)) (hs (.isRef (.static Bundle.tN "UNASSIGNED_STACK" Bundle.steD)) (by decide +kernel)) (fun a h => Nat.not_le.mpr h)
  · exact vx_Zqof (hts (.laysStatic Bundle.tN "SUPPRESSED_SENTINEL" Bundle.listD) (by decide +kernel)) (hts (.initialized Bundle.tN) (by decide +kernel)) (hs (.isRef (.static Bundle.tN "SUPPRESSED_SENTINEL" Bundle.listD)) (by decide +kernel)) (fun a h => Nat.not_le.mpr h)
theorem xk_of {s : State} {b : Nat} (hts : ∀ w ∈ lw_tbl, w.before #[Value.ref b] s = true) : ∃ (D : va_G) (T : Nat → ClassId), XK D T s := by
  obtain ⟨c0, i0, k0⟩ := u_known (C := RX0) (T := TX0) (N := 6) (n := 6) hts inX0 (hts (.instantiable RX0 6) (by decide +kernel))
  obtain ⟨c1, i1, k1⟩ := u_known (C := RX1) (T := TX1) (N := 3) (n := 3) hts inX1 (hts (.instantiable RX1 3) (by decide +kernel))
  obtain ⟨c2, i2, k2⟩ := u_known (C := RX2) (T := TX2) (N := 10) (n := 10) hts inX2 (hts (.instantiable RX2 10) (by decide +kernel))
  obtain ⟨c3, i3, k3⟩ := u_known (C := RX3) (T := TX3) (N := 5) (n := 5) hts inX3 (hts (.instantiable RX3 5) (by decide +kernel))
  obtain ⟨c4, i4, k4⟩ := u_known (C := RX4) (T := TX4) (N := 9) (n := 9) hts inX4 (hts (.instantiable RX4 9) (by decide +kernel))
  obtain ⟨c5, i5, k5⟩ := u_known (C := RX5) (T := TX5) (N := 9) (n := 9) hts inX5 (hts (.instantiable RX5 9) (by decide +kernel))
  obtain ⟨c6, i6, k6⟩ := u_known (C := RX6) (T := TX6) (N := 34) (n := 34) hts inX6 (hts (.instantiable RX6 34) (by decide +kernel))
  obtain ⟨t0, kA0, m0, a01, a02, a03⟩ := Cond.arrayClass_spec (hts (.arrayClass .int) (by decide +kernel))
  obtain ⟨t1, kA1, m1, a11, a12, a13⟩ := Cond.arrayClass_spec (hts (.arrayClass .boolean) (by decide +kernel))
  obtain ⟨t2, kA2, m2, a21, a22, a23⟩ := Cond.arrayClass_spec (hts (.arrayClass .long) (by decide +kernel))
  obtain ⟨m3, t3, kA3, a31, -, a33, a34, a35⟩ := Cond.arrayOver_spec (hts (.arrayOver (.object RX4)) (by decide +kernel))
  obtain ⟨m4, t4, kA4, a41, -, a43, a44, a45⟩ := Cond.arrayOver_spec (hts (.arrayOver (.object RX3)) (by decide +kernel))
  obtain ⟨m5, t5, kA5, a51, -, a53, a54, a55⟩ := Cond.arrayOver_spec (hts (.arrayOver (.object RX2)) (by decide +kernel))
  refine ⟨(fun k => match k with | 0 => c0 | 1 => c1 | 2 => c2 | 3 => c3 | 4 => c4 | 5 => c5 | _ => c6, fun k => match k with | 0 => i0 | 1 => i1 | 2 => i2 | 3 => i3 | 4 => i4 | 5 => i5 | _ => i6), (fun k => match k with | 0 => t0 | 1 => t1 | 2 => t2 | 3 => t3 | 4 => t4 | _ => t5), ⟨fun k q hq => ?_, fun k q hq => ?_⟩⟩
  · match k, hq with
    | 0, hq => cases hq; exact k0
    | 1, hq => cases hq; exact k1
    | 2, hq => cases hq; exact k2
    | 3, hq => cases hq; exact k3
    | 4, hq => cases hq; exact k4
    | 5, hq => cases hq; exact k5
    | 6, hq => cases hq; exact k6
    | k + 7, hq => simp [vwCl] at hq
  · match k, hq with
    | 0, hq => cases hq; exact ⟨fun N z => ⟨fun k h => (by cases h), kA0, a02, m0, a03⟩, a01⟩
    | 1, hq => cases hq; exact ⟨fun N z => ⟨fun k h => (by cases h), kA1, a12, m1, a13⟩, a11⟩
    | 2, hq => cases hq; exact ⟨fun N z => ⟨fun k h => (by cases h), kA2, a22, m2, a23⟩, a21⟩
    | 3, hq => cases hq; exact ⟨fun N z => ⟨fun k h => (by cases h), kA3, a33, m3, a34⟩, kA3, m3, a33, a34, a31, a35⟩
    | 4, hq => cases hq; exact ⟨fun N z => ⟨fun k h => (by cases h), kA4, a43, m4, a44⟩, kA4, m4, a43, a44, a41, a45⟩
    | 5, hq => cases hq; exact ⟨fun N z => ⟨fun k h => (by cases h), kA5, a53, m5, a54⟩, kA5, m5, a53, a54, a51, a55⟩
    | k + 6, hq => simp [xtys] at hq
set_option maxHeartbeats 8000000 in
set_option maxRecDepth 100000 in
/-- THE LAW, from its entry -/
theorem whole_start {p : Program} {e : Env} {s : State} {m : MethodId} {below : List Frame} {meth : Method} {c : Code} (l : Launch) (hflags : l.flags = flags0) {b L : Nat} {xs : Nat → Int32} (hL : L ≤ 3072) (C0 : lw_At p s m meth c b L xs) : W p l e room_1 s m #[Value.ref b] below meth c s.heap [] 0 0 (lw_Z below #[Value.ref b] s) (entryFrame m ([Value.ref b] : List Value).toArray 7) := by
  obtain ⟨hx, hb, hr, hml, hown, hts0, hX, hbl, hlocks, hgv⟩ := id C0
  have hl9 := xt_of hflags
  have hI := xi_of hts0
  have hN := xn_of hts0 hgv
  obtain ⟨D, T, hK⟩ := xk_of hts0
  have hts : ∀ w ∈ wsL_law, w.before #[Value.ref b] s = true := fun w h => hts0 w (wsL_law_in w h)
  have hown : s.vm.findClass RL = some m.cls := hown
  have hb : c.code = cL_law := hb
  have hA : ∀ q : Nat, s.heap.size ≤ q → (fun q : Nat => s.heap.size ≤ q) q := fun _ h => h
  have hS : va_S (fun q : Nat => s.heap.size ≤ q) s.heap s.heap [] := va_S.rf
  have hP : va_P D vwCl [] s.heap := fun k q h => by simp at h
  have hD : va_D (fun q : Nat => s.heap.size ≤ q) [] := ⟨fun i j p q h => by simp at h, fun k q h => by simp at h⟩
  have hl := lv_entry ([.ref b]) (n := 7) (Nat.le_of_ble_eq_true rfl)
  rw [lg_entry_eq]
  generalize (lg_sl ([.ref b]) ++ List.replicate (7 - (lg_sl ([.ref b])).length) Slot.unset).toArray = ls at hl ⊢
  have hl : lv_has ls 7 [(0, .ref b)] := hl
  refine va_new (ci := 5) (fs := [.null, .null, .null, .null, .null, .int 0, .int 0, .int 0, .int 0]) (C := RX5) (T := TX5) (N := 9) hx hb hts inlX5 tyX5 tyX5_ok hown (hts (.classLink RL 8 RX5) (by decide +kernel)) (hts (.instantiable RX5 9) (by decide +kernel)) (hts (.initialized RX5) (by decide +kernel)) hK hP hD hS hA rfl nwX5 (Nat.le_of_ble_eq_true rfl) (Nat.le_of_ble_eq_true rfl) dL_law_0 (fun q5 H hP hD hS => ?_)
  have hP : va_P D vwCl [(q5, .inr (5, [.null, .null, .null, .null, .null, .int 0, .int 0, .int 0, .int 0]))] H := hP
  have hD : va_D (fun q : Nat => s.heap.size ≤ q) [(q5, .inr (5, [.null, .null, .null, .null, .null, .int 0, .int 0, .int 0, .int 0]))] := hD
  refine W.widen (k := 1) (n := 9) (Nat.le_of_ble_eq_true rfl) (Nat.le_of_ble_eq_true rfl) ?_
  refine lv_dup hx hb dL_law_3 rfl ?_
  have hPc := hP.sub (ws' := [(q5, .inr (5, [.null, .null, .null, .null, .null, .int 0, .int 0, .int 0, .int 0]))]) [0] rfl
  have hDc := hD.sub (ws' := [(q5, .inr (5, [.null, .null, .null, .null, .null, .int 0, .int 0, .int 0, .int 0]))]) [0] (by decide) rfl
  have hFc := va_free (wc := [(q5, .inr (5, [.null, .null, .null, .null, .null, .int 0, .int 0, .int 0, .int 0]))]) hD hS hA [0] rfl
  refine va_callv (va_runI (As := []) (rest := [.ref q5]) ⟨hx, hb, hml, hown, hts⟩ (k_X5_init l D T q5 H.size) (cwI 0 hts gL_law_X5_init rfl rfl rfl (hts (.initialized RX5) (by decide +kernel)) (hts (.methodLink RL 88 yX5_init) (by decide +kernel)) (hts (.instanceMethod yX5_init) (by decide +kernel)) rfl (by decide +kernel) ⟨Nat.le_of_ble_eq_true rfl, Nat.le_of_ble_eq_true rfl⟩) ⟨fun a U g mk q => by obtain ⟨q0, q1, qP, qK, qD, qI⟩ := q; exact ⟨q0, q1, qP, va_K.moved (u := U) (U := U.calling g mk a) (Vm.Alike.refl U.vm) qK, qD, XI.warm (s := U) (U := U.calling g mk a) (State.WarmedH.refl U) qI⟩, fun U hU hW => ⟨rfl, by rw [hU], by rw [hU]; exact hPc, va_K.moved hW.alike hK, hDc.weaken (fun _ _ _ _ => trivial), hI.warm hW⟩⟩ rfl rfl hl.1 rfl (lv_room (Nat.le_of_ble_eq_true rfl)) dL_law_4 ⟨Nat.le_of_ble_eq_true rfl, Nat.le_of_ble_eq_true rfl⟩) hS (fun q _ h => hFc q h) hFc (fun u t H1 locs ht hvm hwu hB hz1 hk1 hS => ?_)
  obtain ⟨hP1, hK1, hD1⟩ := hB
  rw [ht] at hP1
  have hP1 : va_P D vwCl (WS5 T u) H1 := hP1
  have hD1 : va_D _ (WS5 T u) := hD1
  obtain ⟨hP, hD⟩ := va_join (wr := []) (w1 := WS5 T u) hP hD [0] [] rfl rfl (by decide) (by decide) hk1 hFc hP1 hD1
  generalize H1 = H at hP hS ⊢
  have hP : va_P D vwCl (WS5 T u) H := hP
  have hD : va_D (fun q : Nat => s.heap.size ≤ q) (WS5 T u) := hD
  refine W.widen (k := 33) (n := 2982) (Nat.le_of_ble_eq_true rfl) (Nat.le_of_ble_eq_true rfl) ?_
  refine lv_astore_n (lv' := [(1, .ref q5), (0, .ref b)]) hx hb dL_law_7 rfl hl (by decide) rfl (fun ls hl => ?_)
  refine va_new (ci := 6) (fs := [.int 0, .int 0, .int 0, .int 0, .int 0, .null, .null, .null, .null, .null, .null, .null, .null, .null, .null, .null, .null, .null, .null, .null, .null, .null, .null, .null, .int 0, .null, .int 0, .int 0, .int 0, .int 0, .int 0, .int 0, .null, .null]) (C := RX6) (T := TX6) (N := 34) hx hb hts inlX6 tyX6 tyX6_ok hown (hts (.classLink RL 89 RX6) (by decide +kernel)) (hts (.instantiable RX6 34) (by decide +kernel)) (hts (.initialized RX6) (by decide +kernel)) hK hP hD hS hA rfl nwX6 (Nat.le_of_ble_eq_true rfl) (Nat.le_of_ble_eq_true rfl) dL_law_8 (fun q6 H hP hD hS => ?_)
  refine W.widen (k := 34) (n := 3016) (Nat.le_of_ble_eq_true rfl) (Nat.le_of_ble_eq_true rfl) ?_
  refine lv_dup hx hb dL_law_11 rfl ?_
  have hPc := hP.sub (ws' := [(q6, .inr (6, [.int 0, .int 0, .int 0, .int 0, .int 0, .null, .null, .null, .null, .null, .null, .null, .null, .null, .null, .null, .null, .null, .null, .null, .null, .null, .null, .null, .int 0, .null, .int 0, .int 0, .int 0, .int 0, .int 0, .int 0, .null, .null]))]) [33] rfl
  have hDc := hD.sub (ws' := [(q6, .inr (6, [.int 0, .int 0, .int 0, .int 0, .int 0, .null, .null, .null, .null, .null, .null, .null, .null, .null, .null, .null, .null, .null, .null, .null, .null, .null, .null, .null, .int 0, .null, .int 0, .int 0, .int 0, .int 0, .int 0, .int 0, .null, .null]))]) [33] (by decide) rfl
  have hFc := va_free (wc := [(q6, .inr (6, [.int 0, .int 0, .int 0, .int 0, .int 0, .null, .null, .null, .null, .null, .null, .null, .null, .null, .null, .null, .null, .null, .null, .null, .null, .null, .null, .null, .int 0, .null, .int 0, .int 0, .int 0, .int 0, .int 0, .int 0, .null, .null]))]) hD hS hA [33] rfl
  refine va_callv (va_runI (As := []) (rest := [.ref q6]) ⟨hx, hb, hml, hown, hts⟩ (k_X6_init l D T q6 H.size) (cwI 0 hts gL_law_X6_init rfl rfl rfl (hts (.initialized RX6) (by decide +kernel)) (hts (.methodLink RL 91 yX6_init) (by decide +kernel)) (hts (.instanceMethod yX6_init) (by decide +kernel)) rfl (by decide +kernel) ⟨Nat.le_of_ble_eq_true rfl, Nat.le_of_ble_eq_true rfl⟩) ⟨fun a U g mk q => by obtain ⟨q0, q1, qP, qK, qD⟩ := q; exact ⟨q0, q1, qP, va_K.moved (u := U) (U := U.calling g mk a) (Vm.Alike.refl U.vm) qK, qD⟩, fun U hU hW => ⟨rfl, by rw [hU], by rw [hU]; exact hPc, va_K.moved hW.alike hK, hDc.weaken (fun _ _ _ _ => trivial)⟩⟩ rfl rfl hl.1 rfl (lv_room (Nat.le_of_ble_eq_true rfl)) dL_law_12 ⟨Nat.le_of_ble_eq_true rfl, Nat.le_of_ble_eq_true rfl⟩) hS (fun q _ h => hFc q h) hFc (fun v t H1 locs ht hvm hwv hB hz1 hk1 hS => ?_)
  obtain ⟨hP1, hK1, hD1⟩ := hB
  rw [ht] at hP1
  have hP1 : va_P D vwCl (WS6 T v) H1 := hP1
  have hD1 : va_D _ (WS6 T v) := hD1
  obtain ⟨hP, hD⟩ := va_join (wr := WS5 T u) (w1 := WS6 T v) hP hD [33] [0, 1, 2, 3, 4, 5, 6, 7, 8, 9, 10, 11, 12, 13, 14, 15, 16, 17, 18, 19, 20, 21, 22, 23, 24, 25, 26, 27, 28, 29, 30, 31, 32] rfl rfl (by decide) (by decide) hk1 hFc hP1 hD1
  generalize H1 = H at hP hS ⊢
  refine W.widen (k := 56) (n := 7528) (Nat.le_of_ble_eq_true rfl) (Nat.le_of_ble_eq_true rfl) ?_
  refine lv_astore_n (lv' := [(2, .ref q6), (1, .ref q5), (0, .ref b)]) hx hb dL_law_15 rfl hl (by decide) rfl (fun ls hl => ?_)
  refine lv_iconst (v := 1) hx hb dL_law_16 (by decide) ?_
  refine xnewa hx hb (atype := .long) (hts (.arrayClass .long) (by decide +kernel)) rfl hK hP hD hS hA 2 rfl (a0 := (1, .inr (.inl (fun _ => 0)))) (fun cA => rfl) (by decide) rfl (Nat.le_of_ble_eq_true rfl) (Nat.le_of_ble_eq_true rfl) (Nat.le_of_ble_eq_true rfl) dL_law_17 (fun q7 H hP hD hS => ?_)
  refine W.widen (k := 57) (n := 7529) (Nat.le_of_ble_eq_true rfl) (Nat.le_of_ble_eq_true rfl) ?_
  refine lv_astore_n (lv' := [(3, .ref q7), (2, .ref q6), (1, .ref q5), (0, .ref b)]) hx hb dL_law_19 rfl hl (by decide) rfl (fun ls hl => ?_)
  refine lv_iconst (v := 0) hx hb dL_law_20 (by decide) ?_
  refine lv_istore (lv' := [(4, .int 0), (3, .ref q7), (2, .ref q6), (1, .ref q5), (0, .ref b)]) hx hb dL_law_21 hl (by decide) rfl (fun ls hl => ?_)
  have hP : va_P D vwCl (WSI T u v q7) H := hP
  have hD : va_D (fun q : Nat => s.heap.size ≤ q) (WSI T u v q7) := hD
  have hXP := xp_of hP
  have hXA := xa_of hD
  subst hwu
  subst hwv
  have hl2 := lv_sub (l' := [(4, .int (nI (6 * 0))), (0, .ref b), (1, .ref (adI u v q7 0)), (2, .ref (adI u v q7 60)), (3, .ref (adI u v q7 100))]) hl [0, 4, 3, 2, 1] rfl
  exact law_loop (ad := adI u v q7) ⟨hx, hb, hml, hown, hts, hX, hbl, hl9, hXA, hK, hN, hL⟩ hr hlocks 512 0 57 7529 hini H _ ls (by omega) (by omega) (by omega) (by omega) hi_LG hXP hS hl2
