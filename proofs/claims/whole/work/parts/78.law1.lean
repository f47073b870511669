/-! THE LAW, a call of each kind: laid by wip/whole/lawgen.py -/
def LCx (p : Program) (l : Launch) (s : State) (m : MethodId) (c : Code) (b L : Nat) (xs : Nat → Int32) (ad : Nat → Nat) (D : va_G) (T : Nat → ClassId) : Prop :=
  p.tables.exec = Jvm.exec ∧ c.code = cL_law ∧ c.maxLocals = 7 ∧ s.vm.findClass RL = some m.cls ∧ (∀ w ∈ wsL_law, w.before #[Value.ref b] s = true) ∧ va_X b L xs s s.heap ∧ b < s.heap.size ∧ l.stackTraces = false ∧ XA s.heap.size ad ∧ XK D T s ∧ XN s.heap.size s s.heap ∧ L ≤ 3072
theorem xin_k {i L : Nat} (hi : 6 * i + 6 ≤ L) (hL : L ≤ 3072) (j : Nat) (hj : j < 6) : vp_in (nI (6 * i) + nI j) L := by
  rw [nI_add]; exact vp_in_nI (by omega) (by omega)
def EndsB (J : Int32 → Int32 → xH → Prop) : Prop := ∀ (k b : Int32) (q : xH), q 60 0 = k → (k = 0 → q 100 0 = b) → (b = 0 ∨ b = 1) → LG q → J k b q
theorem op_removeRuleB {h : xH} (g : LG h) {p0 : Int32} {J : Int32 → Int32 → xH → Prop} (hB : EndsB J) : w_L_removeRule p0 h (fun k h1 => w_X6_removeRule p0 h1 (fun b h2 => J k b h2)) := by
  have hJ : Ends3 (fun k b q => (b = 0 ∨ b = 1) → J k b q) := fun k b q a1 a2 a3 a4 => hB k b q a1 a2 a4 a3
  unfold w_L_removeRule w_X5_removeRule w_X6_removeRule
  refine C_ruleAt (fun j hj e => ⟨⟨by omega, by omega⟩, ?_⟩) (fun hn => ⟨rfl, M_n (bad_of (hi := 5) (by decide) (fun j hj => hn j (by omega))) (T0 (M_h1 (T0 ((fin_x hJ g (by decide)) (Or.inl rfl)))))⟩)
  have y0 : ¬ p0 < 0 ∧ ¬ (5 : Int32) < p0 := by rw [e]; exact nI_rng (n := j) (hi := 5) (by omega) (by decide)
  subst e
  have hin : vp_in (nI j) 6 := vp_in_nI hj (by decide)
  obtain ⟨c, g⟩ := g
  have key : ∀ r : Int32, r = h (20 + j) 0 → ∀ h3, h3 = xup (xup h (20 + j) 0 0) 100 0 r → w_X6_isIn (nI j) 0 5 h3 (fun r1 h2 => ((r1 = 0 → w_X6_removeRule_15 (nI j) (fun b h2 => J 0 b h2) 60 1 h2) ∧ (¬ (r1 = 0) → w_X6_removeRule_15 (nI j) (fun b h2 => J 0 b h2) 60 0 h2))) := by
    rintro r hr h3 rfl
    refine M_y y0 (T1 (M_h0 (T1 ?_)))
    rw [nI_clamp (by omega)]
    refine ⟨hin, ?_⟩
    rintro x8 rfl
    refine ⟨hin, ?_⟩
    rintro h10 rfl
    have gb := br (c := c) (r := r) g (Kc_u (h := h) (k := 20 + j) (j := 0) (x := 0) (by omega))
    have g3 : RR h (xup (xup (xup h (20 + j) 0 0) 100 0 r) 60 0 0) := by obtain ⟨gs, N, n, gf, _⟩ := gb; exact gf.2.2.1
    have g4 : OR (xup (xup (xup h (20 + j) 0 0) 100 0 r) 60 0 0) := by obtain ⟨gs, N, n, gf, _⟩ := gb; exact gf.2.2.2.1
    refine ⟨nb01 (g4 j hj).1, ?_⟩
    refine br_e (c := c) (J := fun k b q => (b = 0 ∨ b = 1) → J k b q) hJ (GG_r gb (h' := xup h (20 + j) 0 0) (fun a ha => xup_row (by omega)) (fun a ha => xup_row (by omega)) (fun r' hr' => ?_) (fun r' hr' => ?_)) (Km_u (by decide) (by decide) (Or.inl (by decide))) (by rw [hr]; exact (g3 j hj).1) (g4 j hj).1
    · generalize xup (xup (xup h (20 + j) 0 0) 100 0 r) 60 0 0 = m at g3 g4 ⊢
      have q := g3 r' hr'
      by_cases e : r' = j
      · subst e
        simp [xup]
        exact ⟨q.2.1, q.2.2.1, q.2.2.2.2⟩
      · have e2 : ¬ 20 + r' = 20 + j := by omega
        simpa [xup, e, e2] using q
    · generalize xup (xup (xup h (20 + j) 0 0) 100 0 r) 60 0 0 = m at g3 g4 ⊢
      have q := g4 r' hr'
      by_cases e : r' = j
      · subst e
        simp [xup]
        exact q.2
      · simpa [xup, e] using q
  rintro x4 rfl h5 rfl
  have ho : h (20 + j) 0 = 0 ∨ h (20 + j) 0 = 1 := by
    obtain ⟨gs, N, n, gf, _⟩ := g
    rw [(gf.2.2.1 j hj).1]
    exact (gf.2.2.2.1 j hj).1
  refine ⟨nb01 ho, fun c => ?_, fun c => ?_⟩
  · exact fun h4 e4 => key 0 c.symm h4 e4
  · exact fun h4 e4 => key 1 (by rcases ho with q | q; exact absurd q c; exact q.symm) h4 e4
set_option maxHeartbeats 4000000 in
set_option maxRecDepth 100000 in
theorem lk_0 {p : Program} {l : Launch} {e : Env} {s : State} {m : MethodId} {below : List Frame} {meth : Method} {c : Code} {b L : Nat} {xs : Nat → Int32} {ad : Nat → Nat} {D : va_G} {T : Nat → ClassId} {h : xH} {H : Heap} {locs : List Loc} {cl sl i : Nat} {ls : Array Slot} (C : LCx p l s m c b L xs ad D T) (g : LG h) (hP : XP ad D T h H) (hS : va_S (fun q => s.heap.size ≤ q) s.heap H locs) (hl : lv_has ls 7 [(4, .int (nI (6 * i))), (0, .ref b), (1, .ref (ad 0)), (2, .ref (ad 60)), (3, .ref (ad 100))]) (hi : 6 * i + 6 ≤ L) (hc : cl + 2 ≤ 601024) (hs : sl + 12 ≤ 7293034)
    (kk : ∀ (h' : xH) (H' : Heap) (locs' : List Loc) (ls' : Array Slot), LG h' → XP ad D T h' H' → va_S (fun q => s.heap.size ≤ q) s.heap H' locs' → lv_has ls' 7 [(4, .int (nI (6 * i))), (0, .ref b), (1, .ref (ad 0)), (2, .ref (ad 60)), (3, .ref (ad 100))] → W p l e room_1 s m #[Value.ref b] below meth c H' locs' (cl + 2) (sl + 12) (lw_Z below #[Value.ref b] s) (F0 m 1617 ls' [])) : W p l e room_1 s m #[Value.ref b] below meth c H locs cl sl (lw_Z below #[Value.ref b] s) (F0 m 168 ls []) := by
  obtain ⟨hx, hb, hml, hown, hts, hX, hbl, hl9, hA, hK, hN, hL⟩ := C
  have hB0 := Nat.le_refl s.heap.size
  have hbA : ¬ (fun q : Nat => s.heap.size ≤ q) b := Nat.not_le.mpr hbl
  have hin1 : vp_in (nI (6 * i) + 1) L := xin_k hi hL 1 (by decide)
  have hin2 : vp_in (nI (6 * i) + 2) L := xin_k hi hL 2 (by decide)
  have hJ : Ends3 (fun k b q => q 60 0 = k ∧ (k = 0 → q 100 0 = b) ∧ LG q) := fun k b q a1 a2 a3 => ⟨a1, a2, a3⟩
  refine lv_aload_n hx hb dL_law_168 rfl (lv_at hl 2 rfl) ?_
  refine lv_aload_n hx hb dL_law_169 rfl (lv_at hl 1 rfl) ?_
  refine lv_iload hx hb dL_law_170 (lv_at hl 0 rfl) ?_
  refine lv_iconst (v := 1) hx hb dL_law_172 (by decide) ?_
  refine lv_iadd hx hb dL_law_173 ?_
  refine va_sld hx hb hX hbl hbA hS hin1 dL_law_174 ?_
  refine lv_aload_n hx hb dL_law_175 rfl (lv_at hl 1 rfl) ?_
  refine lv_iload hx hb dL_law_176 (lv_at hl 0 rfl) ?_
  refine lv_iconst (v := 2) hx hb dL_law_178 (by decide) ?_
  refine lv_iadd hx hb dL_law_179 ?_
  refine va_sld hx hb hX hbl hbA hS hin2 dL_law_180 ?_
  refine lv_aload_n hx hb dL_law_181 rfl (lv_at hl 4 rfl) ?_
  refine xg_calli (vx_runSW (As := [.ref (ad 0), .int (xs (nI (6 * i) + 1).toNatClampNeg), .int (xs (nI (6 * i) + 2).toNatClampNeg), .ref (ad 100)]) (rest := []) ⟨hx, hb, hml, hown, hts⟩ (c_L_setRate l hl9 hA (xs (nI (6 * i) + 1).toNatClampNeg) (xs (nI (6 * i) + 2).toNatClampNeg) (op_setRate g hJ)) (vx_cwSW 4 hts gL_law_L_setRate rfl rfl rfl (by decide +kernel) ⟨Nat.le_of_ble_eq_true rfl, Nat.le_of_ble_eq_true rfl⟩) (xg_preS hB0 hP hK hN hS) rfl rfl hl.1 rfl (lv_room (Nat.le_of_ble_eq_true rfl)) dL_law_182 ⟨by show _ ≤ 601024; omega, by show _ ≤ 7293034; omega⟩) hS (fun k h1 H locs hw hP hS => ?_)
  refine lv_istore (lv' := [(5, .int k), (4, .int (nI (6 * i))), (0, .ref b), (1, .ref (ad 0)), (2, .ref (ad 60)), (3, .ref (ad 100))]) hx hb dL_law_185 hl (by decide) rfl (fun ls hl => ?_)
  refine lv_aload_n hx hb dL_law_187 rfl (lv_at hl 4 rfl) ?_
  refine lv_aload_n hx hb dL_law_188 rfl (lv_at hl 2 rfl) ?_
  refine lv_iload hx hb dL_law_189 (lv_at hl 1 rfl) ?_
  refine lv_iconst (v := 1) hx hb dL_law_191 (by decide) ?_
  refine lv_iadd hx hb dL_law_192 ?_
  refine va_sld hx hb hX hbl hbA hS hin1 dL_law_193 ?_
  refine lv_aload_n hx hb dL_law_194 rfl (lv_at hl 2 rfl) ?_
  refine lv_iload hx hb dL_law_195 (lv_at hl 1 rfl) ?_
  refine lv_iconst (v := 2) hx hb dL_law_197 (by decide) ?_
  refine lv_iadd hx hb dL_law_198 ?_
  refine va_sld hx hb hX hbl hbA hS hin2 dL_law_199 ?_
  refine xg_calli (va_runV (As := [.int (xs (nI (6 * i) + 1).toNatClampNeg), .int (xs (nI (6 * i) + 2).toNatClampNeg)]) (rest := []) ⟨hx, hb, hml, hown, hts⟩ (c_X6_setRate l hl9 hA (xs (nI (6 * i) + 1).toNatClampNeg) (xs (nI (6 * i) + 2).toNatClampNeg) hw) (cwV 2 hts gL_law_X6_setRate rfl rfl rfl (by decide +kernel) ⟨Nat.le_of_ble_eq_true rfl, Nat.le_of_ble_eq_true rfl⟩) (xg_preV hB0 hP hK hN hS xs60 rfl) rfl rfl hl.1 rfl (lv_room (Nat.le_of_ble_eq_true rfl)) dL_law_200 ⟨by show _ ≤ 601024; omega, by show _ ≤ 7293034; omega⟩) hS (fun bb h2 H locs hw hP hS => ?_)
  obtain ⟨e1, e2, g2⟩ := hw
  refine lv_istore (lv' := [(6, .int bb), (5, .int k), (4, .int (nI (6 * i))), (0, .ref b), (1, .ref (ad 0)), (2, .ref (ad 60)), (3, .ref (ad 100))]) hx hb dL_law_203 hl (by decide) rfl (fun ls hl => ?_)
  refine lv_aload_n hx hb dL_law_205 rfl (lv_at hl 5 rfl) ?_
  refine xg_calli (va_runV (As := []) (rest := []) ⟨hx, hb, hml, hown, hts⟩ (c_X6_thrown l hl9 hA (h := h2) (K := fun r q => r = h2 60 0 ∧ q = h2) ⟨rfl, rfl⟩) (cwV 0 hts gL_law_X6_thrown rfl rfl rfl (by decide +kernel) ⟨Nat.le_of_ble_eq_true rfl, Nat.le_of_ble_eq_true rfl⟩) (xg_preV hB0 hP hK hN hS xs60 rfl) rfl rfl hl.1 rfl (lv_room (Nat.le_of_ble_eq_true rfl)) dL_law_206 ⟨by show _ ≤ 601024; omega, by show _ ≤ 7293034; omega⟩) hS (fun r3 h3 H locs hw3 hP hS => ?_)
  obtain ⟨rfl, eh3⟩ := hw3
  rw [eh3] at hP
  refine lv_iload hx hb dL_law_209 (lv_at hl 1 rfl) ?_
  refine lv_icmp_eq (tgt := 216) hx hb dL_law_211 (by decide) (fun _ => ?_) (fun cz => absurd e1 cz)
  refine lv_iload hx hb dL_law_216 (lv_at hl 1 rfl) ?_
  refine lv_if_ne (tgt := 233) hx hb dL_law_218 (by decide) (fun _ => ?_) (fun k0 => ?_)
  · refine lv_goto (tgt := 1617) hx hb dL_law_233 (by decide) ?_
    refine W.widen (k := cl + 2) (n := sl + 12) (by omega) (by omega) ?_
    exact kk _ _ _ _ g2 hP hS (lv_sub hl [2, 3, 4, 5, 6] rfl)
  · refine lv_aload_n hx hb dL_law_221 rfl (lv_at hl 6 rfl) ?_
    refine lv_iconst (v := 0) hx hb dL_law_222 (by decide) ?_
    refine xg_lald hx hb hK hP xs100 xin01 dL_law_223 ?_
    rw [x32_00]
    refine lv_iload hx hb dL_law_224 (lv_at hl 0 rfl) ?_
    refine lv_i2l (v := bb.toInt64) hx hb dL_law_226 rfl ?_
    refine xg_lcmpeq hx hb dL_law_227 dL_law_228 (tgt := 233) (by decide) (fun _ => ?_) (fun cz => absurd (e2 k0) cz)
    refine lv_goto (tgt := 1617) hx hb dL_law_233 (by decide) ?_
    refine W.widen (k := cl + 2) (n := sl + 12) (by omega) (by omega) ?_
    exact kk _ _ _ _ g2 hP hS (lv_sub hl [2, 3, 4, 5, 6] rfl)
set_option maxHeartbeats 4000000 in
set_option maxRecDepth 100000 in
theorem lk_1 {p : Program} {l : Launch} {e : Env} {s : State} {m : MethodId} {below : List Frame} {meth : Method} {c : Code} {b L : Nat} {xs : Nat → Int32} {ad : Nat → Nat} {D : va_G} {T : Nat → ClassId} {h : xH} {H : Heap} {locs : List Loc} {cl sl i : Nat} {ls : Array Slot} (C : LCx p l s m c b L xs ad D T) (g : LG h) (hP : XP ad D T h H) (hS : va_S (fun q => s.heap.size ≤ q) s.heap H locs) (hl : lv_has ls 7 [(4, .int (nI (6 * i))), (0, .ref b), (1, .ref (ad 0)), (2, .ref (ad 60)), (3, .ref (ad 100))]) (hi : 6 * i + 6 ≤ L) (hc : cl + 2 ≤ 601024) (hs : sl + 12 ≤ 7293034)
    (kk : ∀ (h' : xH) (H' : Heap) (locs' : List Loc) (ls' : Array Slot), LG h' → XP ad D T h' H' → va_S (fun q => s.heap.size ≤ q) s.heap H' locs' → lv_has ls' 7 [(4, .int (nI (6 * i))), (0, .ref b), (1, .ref (ad 0)), (2, .ref (ad 60)), (3, .ref (ad 100))] → W p l e room_1 s m #[Value.ref b] below meth c H' locs' (cl + 2) (sl + 12) (lw_Z below #[Value.ref b] s) (F0 m 1617 ls' [])) : W p l e room_1 s m #[Value.ref b] below meth c H locs cl sl (lw_Z below #[Value.ref b] s) (F0 m 236 ls []) := by
  obtain ⟨hx, hb, hml, hown, hts, hX, hbl, hl9, hA, hK, hN, hL⟩ := C
  have hB0 := Nat.le_refl s.heap.size
  have hbA : ¬ (fun q : Nat => s.heap.size ≤ q) b := Nat.not_le.mpr hbl
  have hin1 : vp_in (nI (6 * i) + 1) L := xin_k hi hL 1 (by decide)
  have hJ : Ends3 (fun k b q => q 60 0 = k ∧ (k = 0 → q 100 0 = b) ∧ LG q) := fun k b q a1 a2 a3 => ⟨a1, a2, a3⟩
  refine lv_aload_n hx hb dL_law_236 rfl (lv_at hl 2 rfl) ?_
  refine lv_aload_n hx hb dL_law_237 rfl (lv_at hl 1 rfl) ?_
  refine lv_iload hx hb dL_law_238 (lv_at hl 0 rfl) ?_
  refine lv_iconst (v := 1) hx hb dL_law_240 (by decide) ?_
  refine lv_iadd hx hb dL_law_241 ?_
  refine va_sld hx hb hX hbl hbA hS hin1 dL_law_242 ?_
  refine lv_aload_n hx hb dL_law_243 rfl (lv_at hl 4 rfl) ?_
  refine xg_calli (vx_runSW (As := [.ref (ad 0), .int (xs (nI (6 * i) + 1).toNatClampNeg), .ref (ad 100)]) (rest := []) ⟨hx, hb, hml, hown, hts⟩ (c_L_setFold l hl9 hA (xs (nI (6 * i) + 1).toNatClampNeg) (op_setFold g hJ)) (vx_cwSW 3 hts gL_law_L_setFold rfl rfl rfl (by decide +kernel) ⟨Nat.le_of_ble_eq_true rfl, Nat.le_of_ble_eq_true rfl⟩) (xg_preS hB0 hP hK hN hS) rfl rfl hl.1 rfl (lv_room (Nat.le_of_ble_eq_true rfl)) dL_law_244 ⟨by show _ ≤ 601024; omega, by show _ ≤ 7293034; omega⟩) hS (fun k h1 H locs hw hP hS => ?_)
  refine lv_istore (lv' := [(5, .int k), (4, .int (nI (6 * i))), (0, .ref b), (1, .ref (ad 0)), (2, .ref (ad 60)), (3, .ref (ad 100))]) hx hb dL_law_247 hl (by decide) rfl (fun ls hl => ?_)
  refine lv_aload_n hx hb dL_law_249 rfl (lv_at hl 4 rfl) ?_
  refine lv_aload_n hx hb dL_law_250 rfl (lv_at hl 2 rfl) ?_
  refine lv_iload hx hb dL_law_251 (lv_at hl 1 rfl) ?_
  refine lv_iconst (v := 1) hx hb dL_law_253 (by decide) ?_
  refine lv_iadd hx hb dL_law_254 ?_
  refine va_sld hx hb hX hbl hbA hS hin1 dL_law_255 ?_
  refine xg_calli (va_runV (As := [.int (xs (nI (6 * i) + 1).toNatClampNeg)]) (rest := []) ⟨hx, hb, hml, hown, hts⟩ (c_X6_setFold l hl9 hA (xs (nI (6 * i) + 1).toNatClampNeg) hw) (cwV 1 hts gL_law_X6_setFold rfl rfl rfl (by decide +kernel) ⟨Nat.le_of_ble_eq_true rfl, Nat.le_of_ble_eq_true rfl⟩) (xg_preV hB0 hP hK hN hS xs60 rfl) rfl rfl hl.1 rfl (lv_room (Nat.le_of_ble_eq_true rfl)) dL_law_256 ⟨by show _ ≤ 601024; omega, by show _ ≤ 7293034; omega⟩) hS (fun bb h2 H locs hw hP hS => ?_)
  obtain ⟨e1, e2, g2⟩ := hw
  refine lv_istore (lv' := [(6, .int bb), (5, .int k), (4, .int (nI (6 * i))), (0, .ref b), (1, .ref (ad 0)), (2, .ref (ad 60)), (3, .ref (ad 100))]) hx hb dL_law_259 hl (by decide) rfl (fun ls hl => ?_)
  refine lv_aload_n hx hb dL_law_261 rfl (lv_at hl 5 rfl) ?_
  refine xg_calli (va_runV (As := []) (rest := []) ⟨hx, hb, hml, hown, hts⟩ (c_X6_thrown l hl9 hA (h := h2) (K := fun r q => r = h2 60 0 ∧ q = h2) ⟨rfl, rfl⟩) (cwV 0 hts gL_law_X6_thrown rfl rfl rfl (by decide +kernel) ⟨Nat.le_of_ble_eq_true rfl, Nat.le_of_ble_eq_true rfl⟩) (xg_preV hB0 hP hK hN hS xs60 rfl) rfl rfl hl.1 rfl (lv_room (Nat.le_of_ble_eq_true rfl)) dL_law_262 ⟨by show _ ≤ 601024; omega, by show _ ≤ 7293034; omega⟩) hS (fun r3 h3 H locs hw3 hP hS => ?_)
  obtain ⟨rfl, eh3⟩ := hw3
  rw [eh3] at hP
  refine lv_iload hx hb dL_law_265 (lv_at hl 1 rfl) ?_
  refine lv_icmp_eq (tgt := 272) hx hb dL_law_267 (by decide) (fun _ => ?_) (fun cz => absurd e1 cz)
  refine lv_iload hx hb dL_law_272 (lv_at hl 1 rfl) ?_
  refine lv_if_ne (tgt := 289) hx hb dL_law_274 (by decide) (fun _ => ?_) (fun k0 => ?_)
  · refine lv_goto (tgt := 1617) hx hb dL_law_289 (by decide) ?_
    refine W.widen (k := cl + 2) (n := sl + 12) (by omega) (by omega) ?_
    exact kk _ _ _ _ g2 hP hS (lv_sub hl [2, 3, 4, 5, 6] rfl)
  · refine lv_aload_n hx hb dL_law_277 rfl (lv_at hl 6 rfl) ?_
    refine lv_iconst (v := 0) hx hb dL_law_278 (by decide) ?_
    refine xg_lald hx hb hK hP xs100 xin01 dL_law_279 ?_
    rw [x32_00]
    refine lv_iload hx hb dL_law_280 (lv_at hl 0 rfl) ?_
    refine lv_i2l (v := bb.toInt64) hx hb dL_law_282 rfl ?_
    refine xg_lcmpeq hx hb dL_law_283 dL_law_284 (tgt := 289) (by decide) (fun _ => ?_) (fun cz => absurd (e2 k0) cz)
    refine lv_goto (tgt := 1617) hx hb dL_law_289 (by decide) ?_
    refine W.widen (k := cl + 2) (n := sl + 12) (by omega) (by omega) ?_
    exact kk _ _ _ _ g2 hP hS (lv_sub hl [2, 3, 4, 5, 6] rfl)
set_option maxHeartbeats 4000000 in
set_option maxRecDepth 100000 in
theorem lk_2 {p : Program} {l : Launch} {e : Env} {s : State} {m : MethodId} {below : List Frame} {meth : Method} {c : Code} {b L : Nat} {xs : Nat → Int32} {ad : Nat → Nat} {D : va_G} {T : Nat → ClassId} {h : xH} {H : Heap} {locs : List Loc} {cl sl i : Nat} {ls : Array Slot} (C : LCx p l s m c b L xs ad D T) (g : LG h) (hP : XP ad D T h H) (hS : va_S (fun q => s.heap.size ≤ q) s.heap H locs) (hl : lv_has ls 7 [(4, .int (nI (6 * i))), (0, .ref b), (1, .ref (ad 0)), (2, .ref (ad 60)), (3, .ref (ad 100))]) (hi : 6 * i + 6 ≤ L) (hc : cl + 2 ≤ 601024) (hs : sl + 12 ≤ 7293034)
    (kk : ∀ (h' : xH) (H' : Heap) (locs' : List Loc) (ls' : Array Slot), LG h' → XP ad D T h' H' → va_S (fun q => s.heap.size ≤ q) s.heap H' locs' → lv_has ls' 7 [(4, .int (nI (6 * i))), (0, .ref b), (1, .ref (ad 0)), (2, .ref (ad 60)), (3, .ref (ad 100))] → W p l e room_1 s m #[Value.ref b] below meth c H' locs' (cl + 2) (sl + 12) (lw_Z below #[Value.ref b] s) (F0 m 1617 ls' [])) : W p l e room_1 s m #[Value.ref b] below meth c H locs cl sl (lw_Z below #[Value.ref b] s) (F0 m 292 ls []) := by
  obtain ⟨hx, hb, hml, hown, hts, hX, hbl, hl9, hA, hK, hN, hL⟩ := C
  have hB0 := Nat.le_refl s.heap.size
  have hbA : ¬ (fun q : Nat => s.heap.size ≤ q) b := Nat.not_le.mpr hbl
  have hin1 : vp_in (nI (6 * i) + 1) L := xin_k hi hL 1 (by decide)
  have hin2 : vp_in (nI (6 * i) + 2) L := xin_k hi hL 2 (by decide)
  have hin3 : vp_in (nI (6 * i) + 3) L := xin_k hi hL 3 (by decide)
  have hin4 : vp_in (nI (6 * i) + 4) L := xin_k hi hL 4 (by decide)
  have hin5 : vp_in (nI (6 * i) + 5) L := xin_k hi hL 5 (by decide)
  have hJ : Ends3 (fun k b q => q 60 0 = k ∧ (k = 0 → q 100 0 = b) ∧ LG q) := fun k b q a1 a2 a3 => ⟨a1, a2, a3⟩
  refine lv_aload_n hx hb dL_law_292 rfl (lv_at hl 2 rfl) ?_
  refine lv_aload_n hx hb dL_law_293 rfl (lv_at hl 1 rfl) ?_
  refine lv_iload hx hb dL_law_294 (lv_at hl 0 rfl) ?_
  refine lv_iconst (v := 1) hx hb dL_law_296 (by decide) ?_
  refine lv_iadd hx hb dL_law_297 ?_
  refine va_sld hx hb hX hbl hbA hS hin1 dL_law_298 ?_
  refine lv_aload_n hx hb dL_law_299 rfl (lv_at hl 1 rfl) ?_
  refine lv_iload hx hb dL_law_300 (lv_at hl 0 rfl) ?_
  refine lv_iconst (v := 2) hx hb dL_law_302 (by decide) ?_
  refine lv_iadd hx hb dL_law_303 ?_
  refine va_sld hx hb hX hbl hbA hS hin2 dL_law_304 ?_
  refine lv_aload_n hx hb dL_law_305 rfl (lv_at hl 1 rfl) ?_
  refine lv_iload hx hb dL_law_306 (lv_at hl 0 rfl) ?_
  refine lv_iconst (v := 3) hx hb dL_law_308 (by decide) ?_
  refine lv_iadd hx hb dL_law_309 ?_
  refine va_sld hx hb hX hbl hbA hS hin3 dL_law_310 ?_
  refine lv_aload_n hx hb dL_law_311 rfl (lv_at hl 1 rfl) ?_
  refine lv_iload hx hb dL_law_312 (lv_at hl 0 rfl) ?_
  refine lv_iconst (v := 4) hx hb dL_law_314 (by decide) ?_
  refine lv_iadd hx hb dL_law_315 ?_
  refine va_sld hx hb hX hbl hbA hS hin4 dL_law_316 ?_
  refine lv_aload_n hx hb dL_law_317 rfl (lv_at hl 1 rfl) ?_
  refine lv_iload hx hb dL_law_318 (lv_at hl 0 rfl) ?_
  refine lv_iconst (v := 5) hx hb dL_law_320 (by decide) ?_
  refine lv_iadd hx hb dL_law_321 ?_
  refine va_sld hx hb hX hbl hbA hS hin5 dL_law_322 ?_
  refine lv_aload_n hx hb dL_law_323 rfl (lv_at hl 4 rfl) ?_
  refine xg_calli (vx_runSW (As := [.ref (ad 0), .int (xs (nI (6 * i) + 1).toNatClampNeg), .int (xs (nI (6 * i) + 2).toNatClampNeg), .int (xs (nI (6 * i) + 3).toNatClampNeg), .int (xs (nI (6 * i) + 4).toNatClampNeg), .int (xs (nI (6 * i) + 5).toNatClampNeg), .ref (ad 100)]) (rest := []) ⟨hx, hb, hml, hown, hts⟩ (c_L_setRule l hl9 hA (xs (nI (6 * i) + 1).toNatClampNeg) (xs (nI (6 * i) + 2).toNatClampNeg) (xs (nI (6 * i) + 3).toNatClampNeg) (xs (nI (6 * i) + 4).toNatClampNeg) (xs (nI (6 * i) + 5).toNatClampNeg) (op_setRule g hJ)) (vx_cwSW 7 hts gL_law_L_setRule rfl rfl rfl (by decide +kernel) ⟨Nat.le_of_ble_eq_true rfl, Nat.le_of_ble_eq_true rfl⟩) (xg_preS hB0 hP hK hN hS) rfl rfl hl.1 rfl (lv_room (Nat.le_of_ble_eq_true rfl)) dL_law_324 ⟨by show _ ≤ 601024; omega, by show _ ≤ 7293034; omega⟩) hS (fun k h1 H locs hw hP hS => ?_)
  refine lv_istore (lv' := [(5, .int k), (4, .int (nI (6 * i))), (0, .ref b), (1, .ref (ad 0)), (2, .ref (ad 60)), (3, .ref (ad 100))]) hx hb dL_law_327 hl (by decide) rfl (fun ls hl => ?_)
  refine lv_aload_n hx hb dL_law_329 rfl (lv_at hl 4 rfl) ?_
  refine lv_aload_n hx hb dL_law_330 rfl (lv_at hl 2 rfl) ?_
  refine lv_iload hx hb dL_law_331 (lv_at hl 1 rfl) ?_
  refine lv_iconst (v := 1) hx hb dL_law_333 (by decide) ?_
  refine lv_iadd hx hb dL_law_334 ?_
  refine va_sld hx hb hX hbl hbA hS hin1 dL_law_335 ?_
  refine lv_aload_n hx hb dL_law_336 rfl (lv_at hl 2 rfl) ?_
  refine lv_iload hx hb dL_law_337 (lv_at hl 1 rfl) ?_
  refine lv_iconst (v := 2) hx hb dL_law_339 (by decide) ?_
  refine lv_iadd hx hb dL_law_340 ?_
  refine va_sld hx hb hX hbl hbA hS hin2 dL_law_341 ?_
  refine lv_aload_n hx hb dL_law_342 rfl (lv_at hl 2 rfl) ?_
  refine lv_iload hx hb dL_law_343 (lv_at hl 1 rfl) ?_
  refine lv_iconst (v := 3) hx hb dL_law_345 (by decide) ?_
  refine lv_iadd hx hb dL_law_346 ?_
  refine va_sld hx hb hX hbl hbA hS hin3 dL_law_347 ?_
  refine lv_aload_n hx hb dL_law_348 rfl (lv_at hl 2 rfl) ?_
  refine lv_iload hx hb dL_law_349 (lv_at hl 1 rfl) ?_
  refine lv_iconst (v := 4) hx hb dL_law_351 (by decide) ?_
  refine lv_iadd hx hb dL_law_352 ?_
  refine va_sld hx hb hX hbl hbA hS hin4 dL_law_353 ?_
  refine lv_aload_n hx hb dL_law_354 rfl (lv_at hl 2 rfl) ?_
  refine lv_iload hx hb dL_law_355 (lv_at hl 1 rfl) ?_
  refine lv_iconst (v := 5) hx hb dL_law_357 (by decide) ?_
  refine lv_iadd hx hb dL_law_358 ?_
  refine va_sld hx hb hX hbl hbA hS hin5 dL_law_359 ?_
  refine xg_calli (va_runV (As := [.int (xs (nI (6 * i) + 1).toNatClampNeg), .int (xs (nI (6 * i) + 2).toNatClampNeg), .int (xs (nI (6 * i) + 3).toNatClampNeg), .int (xs (nI (6 * i) + 4).toNatClampNeg), .int (xs (nI (6 * i) + 5).toNatClampNeg)]) (rest := []) ⟨hx, hb, hml, hown, hts⟩ (c_X6_setRule l hl9 hA (xs (nI (6 * i) + 1).toNatClampNeg) (xs (nI (6 * i) + 2).toNatClampNeg) (xs (nI (6 * i) + 3).toNatClampNeg) (xs (nI (6 * i) + 4).toNatClampNeg) (xs (nI (6 * i) + 5).toNatClampNeg) hw) (cwV 5 hts gL_law_X6_setRule rfl rfl rfl (by decide +kernel) ⟨Nat.le_of_ble_eq_true rfl, Nat.le_of_ble_eq_true rfl⟩) (xg_preV hB0 hP hK hN hS xs60 rfl) rfl rfl hl.1 rfl (lv_room (Nat.le_of_ble_eq_true rfl)) dL_law_360 ⟨by show _ ≤ 601024; omega, by show _ ≤ 7293034; omega⟩) hS (fun bb h2 H locs hw hP hS => ?_)
  obtain ⟨e1, e2, g2⟩ := hw
  refine lv_istore (lv' := [(6, .int bb), (5, .int k), (4, .int (nI (6 * i))), (0, .ref b), (1, .ref (ad 0)), (2, .ref (ad 60)), (3, .ref (ad 100))]) hx hb dL_law_363 hl (by decide) rfl (fun ls hl => ?_)
  refine lv_aload_n hx hb dL_law_365 rfl (lv_at hl 5 rfl) ?_
  refine xg_calli (va_runV (As := []) (rest := []) ⟨hx, hb, hml, hown, hts⟩ (c_X6_thrown l hl9 hA (h := h2) (K := fun r q => r = h2 60 0 ∧ q = h2) ⟨rfl, rfl⟩) (cwV 0 hts gL_law_X6_thrown rfl rfl rfl (by decide +kernel) ⟨Nat.le_of_ble_eq_true rfl, Nat.le_of_ble_eq_true rfl⟩) (xg_preV hB0 hP hK hN hS xs60 rfl) rfl rfl hl.1 rfl (lv_room (Nat.le_of_ble_eq_true rfl)) dL_law_366 ⟨by show _ ≤ 601024; omega, by show _ ≤ 7293034; omega⟩) hS (fun r3 h3 H locs hw3 hP hS => ?_)
  obtain ⟨rfl, eh3⟩ := hw3
  rw [eh3] at hP
  refine lv_iload hx hb dL_law_369 (lv_at hl 1 rfl) ?_
  refine lv_icmp_eq (tgt := 376) hx hb dL_law_371 (by decide) (fun _ => ?_) (fun cz => absurd e1 cz)
  refine lv_iload hx hb dL_law_376 (lv_at hl 1 rfl) ?_
  refine lv_if_ne (tgt := 393) hx hb dL_law_378 (by decide) (fun _ => ?_) (fun k0 => ?_)
  · refine lv_goto (tgt := 1617) hx hb dL_law_393 (by decide) ?_
    refine W.widen (k := cl + 2) (n := sl + 12) (by omega) (by omega) ?_
    exact kk _ _ _ _ g2 hP hS (lv_sub hl [2, 3, 4, 5, 6] rfl)
  · refine lv_aload_n hx hb dL_law_381 rfl (lv_at hl 6 rfl) ?_
    refine lv_iconst (v := 0) hx hb dL_law_382 (by decide) ?_
    refine xg_lald hx hb hK hP xs100 xin01 dL_law_383 ?_
    rw [x32_00]
    refine lv_iload hx hb dL_law_384 (lv_at hl 0 rfl) ?_
    refine lv_i2l (v := bb.toInt64) hx hb dL_law_386 rfl ?_
    refine xg_lcmpeq hx hb dL_law_387 dL_law_388 (tgt := 393) (by decide) (fun _ => ?_) (fun cz => absurd (e2 k0) cz)
    refine lv_goto (tgt := 1617) hx hb dL_law_393 (by decide) ?_
    refine W.widen (k := cl + 2) (n := sl + 12) (by omega) (by omega) ?_
    exact kk _ _ _ _ g2 hP hS (lv_sub hl [2, 3, 4, 5, 6] rfl)
set_option maxHeartbeats 4000000 in
set_option maxRecDepth 100000 in
theorem lk_3 {p : Program} {l : Launch} {e : Env} {s : State} {m : MethodId} {below : List Frame} {meth : Method} {c : Code} {b L : Nat} {xs : Nat → Int32} {ad : Nat → Nat} {D : va_G} {T : Nat → ClassId} {h : xH} {H : Heap} {locs : List Loc} {cl sl i : Nat} {ls : Array Slot} (C : LCx p l s m c b L xs ad D T) (g : LG h) (hP : XP ad D T h H) (hS : va_S (fun q => s.heap.size ≤ q) s.heap H locs) (hl : lv_has ls 7 [(4, .int (nI (6 * i))), (0, .ref b), (1, .ref (ad 0)), (2, .ref (ad 60)), (3, .ref (ad 100))]) (hi : 6 * i + 6 ≤ L) (hc : cl + 2 ≤ 601024) (hs : sl + 12 ≤ 7293034)
    (kk : ∀ (h' : xH) (H' : Heap) (locs' : List Loc) (ls' : Array Slot), LG h' → XP ad D T h' H' → va_S (fun q => s.heap.size ≤ q) s.heap H' locs' → lv_has ls' 7 [(4, .int (nI (6 * i))), (0, .ref b), (1, .ref (ad 0)), (2, .ref (ad 60)), (3, .ref (ad 100))] → W p l e room_1 s m #[Value.ref b] below meth c H' locs' (cl + 2) (sl + 12) (lw_Z below #[Value.ref b] s) (F0 m 1617 ls' [])) : W p l e room_1 s m #[Value.ref b] below meth c H locs cl sl (lw_Z below #[Value.ref b] s) (F0 m 396 ls []) := by
  obtain ⟨hx, hb, hml, hown, hts, hX, hbl, hl9, hA, hK, hN, hL⟩ := C
  have hB0 := Nat.le_refl s.heap.size
  have hbA : ¬ (fun q : Nat => s.heap.size ≤ q) b := Nat.not_le.mpr hbl
  have hin1 : vp_in (nI (6 * i) + 1) L := xin_k hi hL 1 (by decide)
  have hJ : EndsB (fun k b q => q 60 0 = k ∧ (k = 0 → q 100 0 = b) ∧ (b = 0 ∨ b = 1) ∧ LG q) := fun k b q a1 a2 a3 a4 => ⟨a1, a2, a3, a4⟩
  refine lv_aload_n hx hb dL_law_396 rfl (lv_at hl 2 rfl) ?_
  refine lv_aload_n hx hb dL_law_397 rfl (lv_at hl 1 rfl) ?_
  refine lv_iload hx hb dL_law_398 (lv_at hl 0 rfl) ?_
  refine lv_iconst (v := 1) hx hb dL_law_400 (by decide) ?_
  refine lv_iadd hx hb dL_law_401 ?_
  refine va_sld hx hb hX hbl hbA hS hin1 dL_law_402 ?_
  refine lv_aload_n hx hb dL_law_403 rfl (lv_at hl 4 rfl) ?_
  refine xg_calli (vx_runSW (As := [.ref (ad 0), .int (xs (nI (6 * i) + 1).toNatClampNeg), .ref (ad 100)]) (rest := []) ⟨hx, hb, hml, hown, hts⟩ (c_L_removeRule l hl9 hA (xs (nI (6 * i) + 1).toNatClampNeg) (op_removeRuleB g hJ)) (vx_cwSW 3 hts gL_law_L_removeRule rfl rfl rfl (by decide +kernel) ⟨Nat.le_of_ble_eq_true rfl, Nat.le_of_ble_eq_true rfl⟩) (xg_preS hB0 hP hK hN hS) rfl rfl hl.1 rfl (lv_room (Nat.le_of_ble_eq_true rfl)) dL_law_404 ⟨by show _ ≤ 601024; omega, by show _ ≤ 7293034; omega⟩) hS (fun k h1 H locs hw hP hS => ?_)
  refine lv_istore (lv' := [(5, .int k), (4, .int (nI (6 * i))), (0, .ref b), (1, .ref (ad 0)), (2, .ref (ad 60)), (3, .ref (ad 100))]) hx hb dL_law_407 hl (by decide) rfl (fun ls hl => ?_)
  refine lv_aload_n hx hb dL_law_409 rfl (lv_at hl 4 rfl) ?_
  refine lv_aload_n hx hb dL_law_410 rfl (lv_at hl 2 rfl) ?_
  refine lv_iload hx hb dL_law_411 (lv_at hl 1 rfl) ?_
  refine lv_iconst (v := 1) hx hb dL_law_413 (by decide) ?_
  refine lv_iadd hx hb dL_law_414 ?_
  refine va_sld hx hb hX hbl hbA hS hin1 dL_law_415 ?_
  refine xg_calli (va_runV (As := [.int (xs (nI (6 * i) + 1).toNatClampNeg)]) (rest := []) ⟨hx, hb, hml, hown, hts⟩ (c_X6_removeRule l hl9 hA (xs (nI (6 * i) + 1).toNatClampNeg) hw) (cwV 1 hts gL_law_X6_removeRule rfl rfl rfl (by decide +kernel) ⟨Nat.le_of_ble_eq_true rfl, Nat.le_of_ble_eq_true rfl⟩) (xg_preV hB0 hP hK hN hS xs60 rfl) rfl rfl hl.1 rfl (lv_room (Nat.le_of_ble_eq_true rfl)) dL_law_416 ⟨by show _ ≤ 601024; omega, by show _ ≤ 7293034; omega⟩) hS (fun bb h2 H locs hw hP hS => ?_)
  obtain ⟨e1, e2, e3, g2⟩ := hw
  refine lv_istore (lv' := [(6, .int bb), (5, .int k), (4, .int (nI (6 * i))), (0, .ref b), (1, .ref (ad 0)), (2, .ref (ad 60)), (3, .ref (ad 100))]) hx hb dL_law_419 hl (by decide) rfl (fun ls hl => ?_)
  refine lv_aload_n hx hb dL_law_421 rfl (lv_at hl 5 rfl) ?_
  refine xg_calli (va_runV (As := []) (rest := []) ⟨hx, hb, hml, hown, hts⟩ (c_X6_thrown l hl9 hA (h := h2) (K := fun r q => r = h2 60 0 ∧ q = h2) ⟨rfl, rfl⟩) (cwV 0 hts gL_law_X6_thrown rfl rfl rfl (by decide +kernel) ⟨Nat.le_of_ble_eq_true rfl, Nat.le_of_ble_eq_true rfl⟩) (xg_preV hB0 hP hK hN hS xs60 rfl) rfl rfl hl.1 rfl (lv_room (Nat.le_of_ble_eq_true rfl)) dL_law_422 ⟨by show _ ≤ 601024; omega, by show _ ≤ 7293034; omega⟩) hS (fun r3 h3 H locs hw3 hP hS => ?_)
  obtain ⟨rfl, eh3⟩ := hw3
  rw [eh3] at hP
  refine lv_iload hx hb dL_law_425 (lv_at hl 1 rfl) ?_
  refine lv_icmp_eq (tgt := 432) hx hb dL_law_427 (by decide) (fun _ => ?_) (fun cz => absurd e1 cz)
  refine lv_iload hx hb dL_law_432 (lv_at hl 1 rfl) ?_
  refine lv_if_ne (tgt := 456) hx hb dL_law_434 (by decide) (fun _ => ?_) (fun k0 => ?_)
  · refine lv_goto (tgt := 1617) hx hb dL_law_456 (by decide) ?_
    refine W.widen (k := cl + 2) (n := sl + 12) (by omega) (by omega) ?_
    exact kk _ _ _ _ g2 hP hS (lv_sub hl [2, 3, 4, 5, 6] rfl)
  · refine lv_aload_n hx hb dL_law_437 rfl (lv_at hl 6 rfl) ?_
    refine lv_iconst (v := 0) hx hb dL_law_438 (by decide) ?_
    refine xg_lald hx hb hK hP xs100 xin01 dL_law_439 ?_
    rw [x32_00]
    refine lv_iload hx hb dL_law_440 (lv_at hl 0 rfl) ?_
    refine lv_if_eq (tgt := 449) hx hb dL_law_442 (by decide) (fun b0 => ?_) (fun b0 => ?_)
    · refine lv_lconst (v := (0 : Int32).toInt64) hx hb dL_law_449 (by decide) ?_
      refine xg_lcmpeq hx hb dL_law_450 dL_law_451 (tgt := 456) (by decide) (fun _ => ?_) (fun cz => absurd ((e2 k0).trans b0) cz)
      refine lv_goto (tgt := 1617) hx hb dL_law_456 (by decide) ?_
      refine W.widen (k := cl + 2) (n := sl + 12) (by omega) (by omega) ?_
      exact kk _ _ _ _ g2 hP hS (lv_sub hl [2, 3, 4, 5, 6] rfl)
    · refine lv_lconst (v := (1 : Int32).toInt64) hx hb dL_law_445 (by decide) ?_
      refine lv_goto (tgt := 450) hx hb dL_law_446 (by decide) ?_
      refine xg_lcmpeq hx hb dL_law_450 dL_law_451 (tgt := 456) (by decide) (fun _ => ?_) (fun cz => absurd ((e2 k0).trans (e3.resolve_left b0)) cz)
      refine lv_goto (tgt := 1617) hx hb dL_law_456 (by decide) ?_
      refine W.widen (k := cl + 2) (n := sl + 12) (by omega) (by omega) ?_
      exact kk _ _ _ _ g2 hP hS (lv_sub hl [2, 3, 4, 5, 6] rfl)
set_option maxHeartbeats 4000000 in
set_option maxRecDepth 100000 in
theorem lk_4 {p : Program} {l : Launch} {e : Env} {s : State} {m : MethodId} {below : List Frame} {meth : Method} {c : Code} {b L : Nat} {xs : Nat → Int32} {ad : Nat → Nat} {D : va_G} {T : Nat → ClassId} {h : xH} {H : Heap} {locs : List Loc} {cl sl i : Nat} {ls : Array Slot} (C : LCx p l s m c b L xs ad D T) (g : LG h) (hP : XP ad D T h H) (hS : va_S (fun q => s.heap.size ≤ q) s.heap H locs) (hl : lv_has ls 7 [(4, .int (nI (6 * i))), (0, .ref b), (1, .ref (ad 0)), (2, .ref (ad 60)), (3, .ref (ad 100))]) (hi : 6 * i + 6 ≤ L) (hc : cl + 2 ≤ 601024) (hs : sl + 12 ≤ 7293034)
    (kk : ∀ (h' : xH) (H' : Heap) (locs' : List Loc) (ls' : Array Slot), LG h' → XP ad D T h' H' → va_S (fun q => s.heap.size ≤ q) s.heap H' locs' → lv_has ls' 7 [(4, .int (nI (6 * i))), (0, .ref b), (1, .ref (ad 0)), (2, .ref (ad 60)), (3, .ref (ad 100))] → W p l e room_1 s m #[Value.ref b] below meth c H' locs' (cl + 2) (sl + 12) (lw_Z below #[Value.ref b] s) (F0 m 1617 ls' [])) : W p l e room_1 s m #[Value.ref b] below meth c H locs cl sl (lw_Z below #[Value.ref b] s) (F0 m 459 ls []) := by
  obtain ⟨hx, hb, hml, hown, hts, hX, hbl, hl9, hA, hK, hN, hL⟩ := C
  have hB0 := Nat.le_refl s.heap.size
  have hbA : ¬ (fun q : Nat => s.heap.size ≤ q) b := Nat.not_le.mpr hbl
  have hin1 : vp_in (nI (6 * i) + 1) L := xin_k hi hL 1 (by decide)
  have hin2 : vp_in (nI (6 * i) + 2) L := xin_k hi hL 2 (by decide)
  have hin3 : vp_in (nI (6 * i) + 3) L := xin_k hi hL 3 (by decide)
  have hin4 : vp_in (nI (6 * i) + 4) L := xin_k hi hL 4 (by decide)
  have hJ : Ends3 (fun k b q => q 60 0 = k ∧ (k = 0 → q 100 0 = b) ∧ LG q) := fun k b q a1 a2 a3 => ⟨a1, a2, a3⟩
  refine lv_aload_n hx hb dL_law_459 rfl (lv_at hl 2 rfl) ?_
  refine lv_aload_n hx hb dL_law_460 rfl (lv_at hl 1 rfl) ?_
  refine lv_iload hx hb dL_law_461 (lv_at hl 0 rfl) ?_
  refine lv_iconst (v := 1) hx hb dL_law_463 (by decide) ?_
  refine lv_iadd hx hb dL_law_464 ?_
  refine va_sld hx hb hX hbl hbA hS hin1 dL_law_465 ?_
  refine lv_aload_n hx hb dL_law_466 rfl (lv_at hl 1 rfl) ?_
  refine lv_iload hx hb dL_law_467 (lv_at hl 0 rfl) ?_
  refine lv_iconst (v := 2) hx hb dL_law_469 (by decide) ?_
  refine lv_iadd hx hb dL_law_470 ?_
  refine va_sld hx hb hX hbl hbA hS hin2 dL_law_471 ?_
  refine lv_aload_n hx hb dL_law_472 rfl (lv_at hl 1 rfl) ?_
  refine lv_iload hx hb dL_law_473 (lv_at hl 0 rfl) ?_
  refine lv_iconst (v := 3) hx hb dL_law_475 (by decide) ?_
  refine lv_iadd hx hb dL_law_476 ?_
  refine va_sld hx hb hX hbl hbA hS hin3 dL_law_477 ?_
  refine lv_aload_n hx hb dL_law_478 rfl (lv_at hl 1 rfl) ?_
  refine lv_iload hx hb dL_law_479 (lv_at hl 0 rfl) ?_
  refine lv_iconst (v := 4) hx hb dL_law_481 (by decide) ?_
  refine lv_iadd hx hb dL_law_482 ?_
  refine va_sld hx hb hX hbl hbA hS hin4 dL_law_483 ?_
  refine lv_aload_n hx hb dL_law_484 rfl (lv_at hl 4 rfl) ?_
  refine xg_calli (vx_runSW (As := [.ref (ad 0), .int (xs (nI (6 * i) + 1).toNatClampNeg), .int (xs (nI (6 * i) + 2).toNatClampNeg), .int (xs (nI (6 * i) + 3).toNatClampNeg), .int (xs (nI (6 * i) + 4).toNatClampNeg), .ref (ad 100)]) (rest := []) ⟨hx, hb, hml, hown, hts⟩ (c_L_setFile l hl9 hA (xs (nI (6 * i) + 1).toNatClampNeg) (xs (nI (6 * i) + 2).toNatClampNeg) (xs (nI (6 * i) + 3).toNatClampNeg) (xs (nI (6 * i) + 4).toNatClampNeg) (op_setFile g hJ)) (vx_cwSW 6 hts gL_law_L_setFile rfl rfl rfl (by decide +kernel) ⟨Nat.le_of_ble_eq_true rfl, Nat.le_of_ble_eq_true rfl⟩) (xg_preS hB0 hP hK hN hS) rfl rfl hl.1 rfl (lv_room (Nat.le_of_ble_eq_true rfl)) dL_law_485 ⟨by show _ ≤ 601024; omega, by show _ ≤ 7293034; omega⟩) hS (fun k h1 H locs hw hP hS => ?_)
  refine lv_istore (lv' := [(5, .int k), (4, .int (nI (6 * i))), (0, .ref b), (1, .ref (ad 0)), (2, .ref (ad 60)), (3, .ref (ad 100))]) hx hb dL_law_488 hl (by decide) rfl (fun ls hl => ?_)
  refine lv_aload_n hx hb dL_law_490 rfl (lv_at hl 4 rfl) ?_
  refine lv_aload_n hx hb dL_law_491 rfl (lv_at hl 2 rfl) ?_
  refine lv_iload hx hb dL_law_492 (lv_at hl 1 rfl) ?_
  refine lv_iconst (v := 1) hx hb dL_law_494 (by decide) ?_
  refine lv_iadd hx hb dL_law_495 ?_
  refine va_sld hx hb hX hbl hbA hS hin1 dL_law_496 ?_
  refine lv_aload_n hx hb dL_law_497 rfl (lv_at hl 2 rfl) ?_
  refine lv_iload hx hb dL_law_498 (lv_at hl 1 rfl) ?_
  refine lv_iconst (v := 2) hx hb dL_law_500 (by decide) ?_
  refine lv_iadd hx hb dL_law_501 ?_
  refine va_sld hx hb hX hbl hbA hS hin2 dL_law_502 ?_
  refine lv_aload_n hx hb dL_law_503 rfl (lv_at hl 2 rfl) ?_
  refine lv_iload hx hb dL_law_504 (lv_at hl 1 rfl) ?_
  refine lv_iconst (v := 3) hx hb dL_law_506 (by decide) ?_
  refine lv_iadd hx hb dL_law_507 ?_
  refine va_sld hx hb hX hbl hbA hS hin3 dL_law_508 ?_
  refine lv_aload_n hx hb dL_law_509 rfl (lv_at hl 2 rfl) ?_
  refine lv_iload hx hb dL_law_510 (lv_at hl 1 rfl) ?_
  refine lv_iconst (v := 4) hx hb dL_law_512 (by decide) ?_
  refine lv_iadd hx hb dL_law_513 ?_
  refine va_sld hx hb hX hbl hbA hS hin4 dL_law_514 ?_
  refine xg_calli (va_runV (As := [.int (xs (nI (6 * i) + 1).toNatClampNeg), .int (xs (nI (6 * i) + 2).toNatClampNeg), .int (xs (nI (6 * i) + 3).toNatClampNeg), .int (xs (nI (6 * i) + 4).toNatClampNeg)]) (rest := []) ⟨hx, hb, hml, hown, hts⟩ (c_X6_setFile l hl9 hA (xs (nI (6 * i) + 1).toNatClampNeg) (xs (nI (6 * i) + 2).toNatClampNeg) (xs (nI (6 * i) + 3).toNatClampNeg) (xs (nI (6 * i) + 4).toNatClampNeg) hw) (cwV 4 hts gL_law_X6_setFile rfl rfl rfl (by decide +kernel) ⟨Nat.le_of_ble_eq_true rfl, Nat.le_of_ble_eq_true rfl⟩) (xg_preV hB0 hP hK hN hS xs60 rfl) rfl rfl hl.1 rfl (lv_room (Nat.le_of_ble_eq_true rfl)) dL_law_515 ⟨by show _ ≤ 601024; omega, by show _ ≤ 7293034; omega⟩) hS (fun bb h2 H locs hw hP hS => ?_)
  obtain ⟨e1, e2, g2⟩ := hw
  refine lv_istore (lv' := [(6, .int bb), (5, .int k), (4, .int (nI (6 * i))), (0, .ref b), (1, .ref (ad 0)), (2, .ref (ad 60)), (3, .ref (ad 100))]) hx hb dL_law_518 hl (by decide) rfl (fun ls hl => ?_)
  refine lv_aload_n hx hb dL_law_520 rfl (lv_at hl 5 rfl) ?_
  refine xg_calli (va_runV (As := []) (rest := []) ⟨hx, hb, hml, hown, hts⟩ (c_X6_thrown l hl9 hA (h := h2) (K := fun r q => r = h2 60 0 ∧ q = h2) ⟨rfl, rfl⟩) (cwV 0 hts gL_law_X6_thrown rfl rfl rfl (by decide +kernel) ⟨Nat.le_of_ble_eq_true rfl, Nat.le_of_ble_eq_true rfl⟩) (xg_preV hB0 hP hK hN hS xs60 rfl) rfl rfl hl.1 rfl (lv_room (Nat.le_of_ble_eq_true rfl)) dL_law_521 ⟨by show _ ≤ 601024; omega, by show _ ≤ 7293034; omega⟩) hS (fun r3 h3 H locs hw3 hP hS => ?_)
  obtain ⟨rfl, eh3⟩ := hw3
  rw [eh3] at hP
  refine lv_iload hx hb dL_law_524 (lv_at hl 1 rfl) ?_
  refine lv_icmp_eq (tgt := 531) hx hb dL_law_526 (by decide) (fun _ => ?_) (fun cz => absurd e1 cz)
  refine lv_iload hx hb dL_law_531 (lv_at hl 1 rfl) ?_
  refine lv_if_ne (tgt := 548) hx hb dL_law_533 (by decide) (fun _ => ?_) (fun k0 => ?_)
  · refine lv_goto (tgt := 1617) hx hb dL_law_548 (by decide) ?_
    refine W.widen (k := cl + 2) (n := sl + 12) (by omega) (by omega) ?_
    exact kk _ _ _ _ g2 hP hS (lv_sub hl [2, 3, 4, 5, 6] rfl)
  · refine lv_aload_n hx hb dL_law_536 rfl (lv_at hl 6 rfl) ?_
    refine lv_iconst (v := 0) hx hb dL_law_537 (by decide) ?_
    refine xg_lald hx hb hK hP xs100 xin01 dL_law_538 ?_
    rw [x32_00]
    refine lv_iload hx hb dL_law_539 (lv_at hl 0 rfl) ?_
    refine lv_i2l (v := bb.toInt64) hx hb dL_law_541 rfl ?_
    refine xg_lcmpeq hx hb dL_law_542 dL_law_543 (tgt := 548) (by decide) (fun _ => ?_) (fun cz => absurd (e2 k0) cz)
    refine lv_goto (tgt := 1617) hx hb dL_law_548 (by decide) ?_
    refine W.widen (k := cl + 2) (n := sl + 12) (by omega) (by omega) ?_
    exact kk _ _ _ _ g2 hP hS (lv_sub hl [2, 3, 4, 5, 6] rfl)
set_option maxHeartbeats 4000000 in
set_option maxRecDepth 100000 in
theorem lk_5 {p : Program} {l : Launch} {e : Env} {s : State} {m : MethodId} {below : List Frame} {meth : Method} {c : Code} {b L : Nat} {xs : Nat → Int32} {ad : Nat → Nat} {D : va_G} {T : Nat → ClassId} {h : xH} {H : Heap} {locs : List Loc} {cl sl i : Nat} {ls : Array Slot} (C : LCx p l s m c b L xs ad D T) (g : LG h) (hP : XP ad D T h H) (hS : va_S (fun q => s.heap.size ≤ q) s.heap H locs) (hl : lv_has ls 7 [(4, .int (nI (6 * i))), (0, .ref b), (1, .ref (ad 0)), (2, .ref (ad 60)), (3, .ref (ad 100))]) (hi : 6 * i + 6 ≤ L) (hc : cl + 2 ≤ 601024) (hs : sl + 12 ≤ 7293034)
    (kk : ∀ (h' : xH) (H' : Heap) (locs' : List Loc) (ls' : Array Slot), LG h' → XP ad D T h' H' → va_S (fun q => s.heap.size ≤ q) s.heap H' locs' → lv_has ls' 7 [(4, .int (nI (6 * i))), (0, .ref b), (1, .ref (ad 0)), (2, .ref (ad 60)), (3, .ref (ad 100))] → W p l e room_1 s m #[Value.ref b] below meth c H' locs' (cl + 2) (sl + 12) (lw_Z below #[Value.ref b] s) (F0 m 1617 ls' [])) : W p l e room_1 s m #[Value.ref b] below meth c H locs cl sl (lw_Z below #[Value.ref b] s) (F0 m 551 ls []) := by
  obtain ⟨hx, hb, hml, hown, hts, hX, hbl, hl9, hA, hK, hN, hL⟩ := C
  have hB0 := Nat.le_refl s.heap.size
  have hbA : ¬ (fun q : Nat => s.heap.size ≤ q) b := Nat.not_le.mpr hbl
  have hin1 : vp_in (nI (6 * i) + 1) L := xin_k hi hL 1 (by decide)
  have hin2 : vp_in (nI (6 * i) + 2) L := xin_k hi hL 2 (by decide)
  have hin3 : vp_in (nI (6 * i) + 3) L := xin_k hi hL 3 (by decide)
  have hin4 : vp_in (nI (6 * i) + 4) L := xin_k hi hL 4 (by decide)
  have hin5 : vp_in (nI (6 * i) + 5) L := xin_k hi hL 5 (by decide)
  have hJ : Ends3 (fun k b q => q 60 0 = k ∧ (k = 0 → q 100 0 = b) ∧ LG q) := fun k b q a1 a2 a3 => ⟨a1, a2, a3⟩
  refine lv_aload_n hx hb dL_law_551 rfl (lv_at hl 2 rfl) ?_
  refine lv_aload_n hx hb dL_law_552 rfl (lv_at hl 1 rfl) ?_
  refine lv_iload hx hb dL_law_553 (lv_at hl 0 rfl) ?_
  refine lv_iconst (v := 1) hx hb dL_law_555 (by decide) ?_
  refine lv_iadd hx hb dL_law_556 ?_
  refine va_sld hx hb hX hbl hbA hS hin1 dL_law_557 ?_
  refine lv_aload_n hx hb dL_law_558 rfl (lv_at hl 1 rfl) ?_
  refine lv_iload hx hb dL_law_559 (lv_at hl 0 rfl) ?_
  refine lv_iconst (v := 2) hx hb dL_law_561 (by decide) ?_
  refine lv_iadd hx hb dL_law_562 ?_
  refine va_sld hx hb hX hbl hbA hS hin2 dL_law_563 ?_
  refine lv_aload_n hx hb dL_law_564 rfl (lv_at hl 1 rfl) ?_
  refine lv_iload hx hb dL_law_565 (lv_at hl 0 rfl) ?_
  refine lv_iconst (v := 3) hx hb dL_law_567 (by decide) ?_
  refine lv_iadd hx hb dL_law_568 ?_
  refine va_sld hx hb hX hbl hbA hS hin3 dL_law_569 ?_
  refine lv_aload_n hx hb dL_law_570 rfl (lv_at hl 1 rfl) ?_
  refine lv_iload hx hb dL_law_571 (lv_at hl 0 rfl) ?_
  refine lv_iconst (v := 4) hx hb dL_law_573 (by decide) ?_
  refine lv_iadd hx hb dL_law_574 ?_
  refine va_sld hx hb hX hbl hbA hS hin4 dL_law_575 ?_
  refine lv_aload_n hx hb dL_law_576 rfl (lv_at hl 1 rfl) ?_
  refine lv_iload hx hb dL_law_577 (lv_at hl 0 rfl) ?_
  refine lv_iconst (v := 5) hx hb dL_law_579 (by decide) ?_
  refine lv_iadd hx hb dL_law_580 ?_
  refine va_sld hx hb hX hbl hbA hS hin5 dL_law_581 ?_
  refine lv_aload_n hx hb dL_law_582 rfl (lv_at hl 4 rfl) ?_
  refine xg_calli (vx_runSW (As := [.ref (ad 0), .int (xs (nI (6 * i) + 1).toNatClampNeg), .int (xs (nI (6 * i) + 2).toNatClampNeg), .int (xs (nI (6 * i) + 3).toNatClampNeg), .int (xs (nI (6 * i) + 4).toNatClampNeg), .int (xs (nI (6 * i) + 5).toNatClampNeg), .ref (ad 100)]) (rest := []) ⟨hx, hb, hml, hown, hts⟩ (c_L_message l hl9 hA (xs (nI (6 * i) + 1).toNatClampNeg) (xs (nI (6 * i) + 2).toNatClampNeg) (xs (nI (6 * i) + 3).toNatClampNeg) (xs (nI (6 * i) + 4).toNatClampNeg) (xs (nI (6 * i) + 5).toNatClampNeg) (op_message g hJ)) (vx_cwSW 7 hts gL_law_L_message rfl rfl rfl (by decide +kernel) ⟨Nat.le_of_ble_eq_true rfl, Nat.le_of_ble_eq_true rfl⟩) (xg_preS hB0 hP hK hN hS) rfl rfl hl.1 rfl (lv_room (Nat.le_of_ble_eq_true rfl)) dL_law_583 ⟨by show _ ≤ 601024; omega, by show _ ≤ 7293034; omega⟩) hS (fun k h1 H locs hw hP hS => ?_)
  refine lv_istore (lv' := [(5, .int k), (4, .int (nI (6 * i))), (0, .ref b), (1, .ref (ad 0)), (2, .ref (ad 60)), (3, .ref (ad 100))]) hx hb dL_law_586 hl (by decide) rfl (fun ls hl => ?_)
  refine lv_aload_n hx hb dL_law_588 rfl (lv_at hl 4 rfl) ?_
  refine lv_aload_n hx hb dL_law_589 rfl (lv_at hl 2 rfl) ?_
  refine lv_iload hx hb dL_law_590 (lv_at hl 1 rfl) ?_
  refine lv_iconst (v := 1) hx hb dL_law_592 (by decide) ?_
  refine lv_iadd hx hb dL_law_593 ?_
  refine va_sld hx hb hX hbl hbA hS hin1 dL_law_594 ?_
  refine lv_aload_n hx hb dL_law_595 rfl (lv_at hl 2 rfl) ?_
  refine lv_iload hx hb dL_law_596 (lv_at hl 1 rfl) ?_
  refine lv_iconst (v := 2) hx hb dL_law_598 (by decide) ?_
  refine lv_iadd hx hb dL_law_599 ?_
  refine va_sld hx hb hX hbl hbA hS hin2 dL_law_600 ?_
  refine lv_aload_n hx hb dL_law_601 rfl (lv_at hl 2 rfl) ?_
  refine lv_iload hx hb dL_law_602 (lv_at hl 1 rfl) ?_
  refine lv_iconst (v := 3) hx hb dL_law_604 (by decide) ?_
  refine lv_iadd hx hb dL_law_605 ?_
  refine va_sld hx hb hX hbl hbA hS hin3 dL_law_606 ?_
  refine lv_aload_n hx hb dL_law_607 rfl (lv_at hl 2 rfl) ?_
  refine lv_iload hx hb dL_law_608 (lv_at hl 1 rfl) ?_
  refine lv_iconst (v := 4) hx hb dL_law_610 (by decide) ?_
  refine lv_iadd hx hb dL_law_611 ?_
  refine va_sld hx hb hX hbl hbA hS hin4 dL_law_612 ?_
  refine lv_aload_n hx hb dL_law_613 rfl (lv_at hl 2 rfl) ?_
  refine lv_iload hx hb dL_law_614 (lv_at hl 1 rfl) ?_
  refine lv_iconst (v := 5) hx hb dL_law_616 (by decide) ?_
  refine lv_iadd hx hb dL_law_617 ?_
  refine va_sld hx hb hX hbl hbA hS hin5 dL_law_618 ?_
  refine xg_calli (va_runV (As := [.int (xs (nI (6 * i) + 1).toNatClampNeg), .int (xs (nI (6 * i) + 2).toNatClampNeg), .int (xs (nI (6 * i) + 3).toNatClampNeg), .int (xs (nI (6 * i) + 4).toNatClampNeg), .int (xs (nI (6 * i) + 5).toNatClampNeg)]) (rest := []) ⟨hx, hb, hml, hown, hts⟩ (c_X6_message l hl9 hA (xs (nI (6 * i) + 1).toNatClampNeg) (xs (nI (6 * i) + 2).toNatClampNeg) (xs (nI (6 * i) + 3).toNatClampNeg) (xs (nI (6 * i) + 4).toNatClampNeg) (xs (nI (6 * i) + 5).toNatClampNeg) hw) (cwV 5 hts gL_law_X6_message rfl rfl rfl (by decide +kernel) ⟨Nat.le_of_ble_eq_true rfl, Nat.le_of_ble_eq_true rfl⟩) (xg_preV hB0 hP hK hN hS xs60 rfl) rfl rfl hl.1 rfl (lv_room (Nat.le_of_ble_eq_true rfl)) dL_law_619 ⟨by show _ ≤ 601024; omega, by show _ ≤ 7293034; omega⟩) hS (fun bb h2 H locs hw hP hS => ?_)
  obtain ⟨e1, e2, g2⟩ := hw
  refine lv_istore (lv' := [(6, .int bb), (5, .int k), (4, .int (nI (6 * i))), (0, .ref b), (1, .ref (ad 0)), (2, .ref (ad 60)), (3, .ref (ad 100))]) hx hb dL_law_622 hl (by decide) rfl (fun ls hl => ?_)
  refine lv_aload_n hx hb dL_law_624 rfl (lv_at hl 5 rfl) ?_
  refine xg_calli (va_runV (As := []) (rest := []) ⟨hx, hb, hml, hown, hts⟩ (c_X6_thrown l hl9 hA (h := h2) (K := fun r q => r = h2 60 0 ∧ q = h2) ⟨rfl, rfl⟩) (cwV 0 hts gL_law_X6_thrown rfl rfl rfl (by decide +kernel) ⟨Nat.le_of_ble_eq_true rfl, Nat.le_of_ble_eq_true rfl⟩) (xg_preV hB0 hP hK hN hS xs60 rfl) rfl rfl hl.1 rfl (lv_room (Nat.le_of_ble_eq_true rfl)) dL_law_625 ⟨by show _ ≤ 601024; omega, by show _ ≤ 7293034; omega⟩) hS (fun r3 h3 H locs hw3 hP hS => ?_)
  obtain ⟨rfl, eh3⟩ := hw3
  rw [eh3] at hP
  refine lv_iload hx hb dL_law_628 (lv_at hl 1 rfl) ?_
  refine lv_icmp_eq (tgt := 635) hx hb dL_law_630 (by decide) (fun _ => ?_) (fun cz => absurd e1 cz)
  refine lv_iload hx hb dL_law_635 (lv_at hl 1 rfl) ?_
  refine lv_if_ne (tgt := 652) hx hb dL_law_637 (by decide) (fun _ => ?_) (fun k0 => ?_)
  · refine lv_goto (tgt := 1617) hx hb dL_law_652 (by decide) ?_
    refine W.widen (k := cl + 2) (n := sl + 12) (by omega) (by omega) ?_
    exact kk _ _ _ _ g2 hP hS (lv_sub hl [2, 3, 4, 5, 6] rfl)
  · refine lv_aload_n hx hb dL_law_640 rfl (lv_at hl 6 rfl) ?_
    refine lv_iconst (v := 0) hx hb dL_law_641 (by decide) ?_
    refine xg_lald hx hb hK hP xs100 xin01 dL_law_642 ?_
    rw [x32_00]
    refine lv_iload hx hb dL_law_643 (lv_at hl 0 rfl) ?_
    refine lv_i2l (v := bb.toInt64) hx hb dL_law_645 rfl ?_
    refine xg_lcmpeq hx hb dL_law_646 dL_law_647 (tgt := 652) (by decide) (fun _ => ?_) (fun cz => absurd (e2 k0) cz)
    refine lv_goto (tgt := 1617) hx hb dL_law_652 (by decide) ?_
    refine W.widen (k := cl + 2) (n := sl + 12) (by omega) (by omega) ?_
    exact kk _ _ _ _ g2 hP hS (lv_sub hl [2, 3, 4, 5, 6] rfl)
set_option maxHeartbeats 4000000 in
set_option maxRecDepth 100000 in
theorem lk_6 {p : Program} {l : Launch} {e : Env} {s : State} {m : MethodId} {below : List Frame} {meth : Method} {c : Code} {b L : Nat} {xs : Nat → Int32} {ad : Nat → Nat} {D : va_G} {T : Nat → ClassId} {h : xH} {H : Heap} {locs : List Loc} {cl sl i : Nat} {ls : Array Slot} (C : LCx p l s m c b L xs ad D T) (g : LG h) (hP : XP ad D T h H) (hS : va_S (fun q => s.heap.size ≤ q) s.heap H locs) (hl : lv_has ls 7 [(4, .int (nI (6 * i))), (0, .ref b), (1, .ref (ad 0)), (2, .ref (ad 60)), (3, .ref (ad 100))]) (hi : 6 * i + 6 ≤ L) (hc : cl + 2 ≤ 601024) (hs : sl + 12 ≤ 7293034)
    (kk : ∀ (h' : xH) (H' : Heap) (locs' : List Loc) (ls' : Array Slot), LG h' → XP ad D T h' H' → va_S (fun q => s.heap.size ≤ q) s.heap H' locs' → lv_has ls' 7 [(4, .int (nI (6 * i))), (0, .ref b), (1, .ref (ad 0)), (2, .ref (ad 60)), (3, .ref (ad 100))] → W p l e room_1 s m #[Value.ref b] below meth c H' locs' (cl + 2) (sl + 12) (lw_Z below #[Value.ref b] s) (F0 m 1617 ls' [])) : W p l e room_1 s m #[Value.ref b] below meth c H locs cl sl (lw_Z below #[Value.ref b] s) (F0 m 655 ls []) := by
  obtain ⟨hx, hb, hml, hown, hts, hX, hbl, hl9, hA, hK, hN, hL⟩ := C
  have hB0 := Nat.le_refl s.heap.size
  have hbA : ¬ (fun q : Nat => s.heap.size ≤ q) b := Nat.not_le.mpr hbl
  have hin1 : vp_in (nI (6 * i) + 1) L := xin_k hi hL 1 (by decide)
  have hJ : Ends3 (fun k b q => q 60 0 = k ∧ (k = 0 → q 100 0 = b) ∧ LG q) := fun k b q a1 a2 a3 => ⟨a1, a2, a3⟩
  refine lv_aload_n hx hb dL_law_655 rfl (lv_at hl 2 rfl) ?_
  refine lv_aload_n hx hb dL_law_656 rfl (lv_at hl 1 rfl) ?_
  refine lv_iload hx hb dL_law_657 (lv_at hl 0 rfl) ?_
  refine lv_iconst (v := 1) hx hb dL_law_659 (by decide) ?_
  refine lv_iadd hx hb dL_law_660 ?_
  refine va_sld hx hb hX hbl hbA hS hin1 dL_law_661 ?_
  refine lv_aload_n hx hb dL_law_662 rfl (lv_at hl 4 rfl) ?_
  refine xg_calli (vx_runSW (As := [.ref (ad 0), .int (xs (nI (6 * i) + 1).toNatClampNeg), .ref (ad 100)]) (rest := []) ⟨hx, hb, hml, hown, hts⟩ (c_L_pass l hl9 hA (xs (nI (6 * i) + 1).toNatClampNeg) (op_pass g hJ)) (vx_cwSW 3 hts gL_law_L_pass rfl rfl rfl (by decide +kernel) ⟨Nat.le_of_ble_eq_true rfl, Nat.le_of_ble_eq_true rfl⟩) (xg_preS hB0 hP hK hN hS) rfl rfl hl.1 rfl (lv_room (Nat.le_of_ble_eq_true rfl)) dL_law_663 ⟨by show _ ≤ 601024; omega, by show _ ≤ 7293034; omega⟩) hS (fun k h1 H locs hw hP hS => ?_)
  refine lv_istore (lv' := [(5, .int k), (4, .int (nI (6 * i))), (0, .ref b), (1, .ref (ad 0)), (2, .ref (ad 60)), (3, .ref (ad 100))]) hx hb dL_law_666 hl (by decide) rfl (fun ls hl => ?_)
  refine lv_aload_n hx hb dL_law_668 rfl (lv_at hl 4 rfl) ?_
  refine lv_aload_n hx hb dL_law_669 rfl (lv_at hl 2 rfl) ?_
  refine lv_iload hx hb dL_law_670 (lv_at hl 1 rfl) ?_
  refine lv_iconst (v := 1) hx hb dL_law_672 (by decide) ?_
  refine lv_iadd hx hb dL_law_673 ?_
  refine va_sld hx hb hX hbl hbA hS hin1 dL_law_674 ?_
  refine xg_calli (va_runV (As := [.int (xs (nI (6 * i) + 1).toNatClampNeg)]) (rest := []) ⟨hx, hb, hml, hown, hts⟩ (c_X6_pass l hl9 hA (xs (nI (6 * i) + 1).toNatClampNeg) hw) (cwV 1 hts gL_law_X6_pass rfl rfl rfl (by decide +kernel) ⟨Nat.le_of_ble_eq_true rfl, Nat.le_of_ble_eq_true rfl⟩) (xg_preV hB0 hP hK hN hS xs60 rfl) rfl rfl hl.1 rfl (lv_room (Nat.le_of_ble_eq_true rfl)) dL_law_675 ⟨by show _ ≤ 601024; omega, by show _ ≤ 7293034; omega⟩) hS (fun bb h2 H locs hw hP hS => ?_)
  obtain ⟨e1, e2, g2⟩ := hw
  refine lv_istore (lv' := [(6, .int bb), (5, .int k), (4, .int (nI (6 * i))), (0, .ref b), (1, .ref (ad 0)), (2, .ref (ad 60)), (3, .ref (ad 100))]) hx hb dL_law_678 hl (by decide) rfl (fun ls hl => ?_)
  refine lv_aload_n hx hb dL_law_680 rfl (lv_at hl 5 rfl) ?_
  refine xg_calli (va_runV (As := []) (rest := []) ⟨hx, hb, hml, hown, hts⟩ (c_X6_thrown l hl9 hA (h := h2) (K := fun r q => r = h2 60 0 ∧ q = h2) ⟨rfl, rfl⟩) (cwV 0 hts gL_law_X6_thrown rfl rfl rfl (by decide +kernel) ⟨Nat.le_of_ble_eq_true rfl, Nat.le_of_ble_eq_true rfl⟩) (xg_preV hB0 hP hK hN hS xs60 rfl) rfl rfl hl.1 rfl (lv_room (Nat.le_of_ble_eq_true rfl)) dL_law_681 ⟨by show _ ≤ 601024; omega, by show _ ≤ 7293034; omega⟩) hS (fun r3 h3 H locs hw3 hP hS => ?_)
  obtain ⟨rfl, eh3⟩ := hw3
  rw [eh3] at hP
  refine lv_iload hx hb dL_law_684 (lv_at hl 1 rfl) ?_
  refine lv_icmp_eq (tgt := 691) hx hb dL_law_686 (by decide) (fun _ => ?_) (fun cz => absurd e1 cz)
  refine lv_iload hx hb dL_law_691 (lv_at hl 1 rfl) ?_
  refine lv_if_ne (tgt := 708) hx hb dL_law_693 (by decide) (fun _ => ?_) (fun k0 => ?_)
  · refine lv_goto (tgt := 1617) hx hb dL_law_708 (by decide) ?_
    refine W.widen (k := cl + 2) (n := sl + 12) (by omega) (by omega) ?_
    exact kk _ _ _ _ g2 hP hS (lv_sub hl [2, 3, 4, 5, 6] rfl)
  · refine lv_aload_n hx hb dL_law_696 rfl (lv_at hl 6 rfl) ?_
    refine lv_iconst (v := 0) hx hb dL_law_697 (by decide) ?_
    refine xg_lald hx hb hK hP xs100 xin01 dL_law_698 ?_
    rw [x32_00]
    refine lv_iload hx hb dL_law_699 (lv_at hl 0 rfl) ?_
    refine lv_i2l (v := bb.toInt64) hx hb dL_law_701 rfl ?_
    refine xg_lcmpeq hx hb dL_law_702 dL_law_703 (tgt := 708) (by decide) (fun _ => ?_) (fun cz => absurd (e2 k0) cz)
    refine lv_goto (tgt := 1617) hx hb dL_law_708 (by decide) ?_
    refine W.widen (k := cl + 2) (n := sl + 12) (by omega) (by omega) ?_
    exact kk _ _ _ _ g2 hP hS (lv_sub hl [2, 3, 4, 5, 6] rfl)
set_option maxHeartbeats 4000000 in
set_option maxRecDepth 100000 in
theorem lk_7 {p : Program} {l : Launch} {e : Env} {s : State} {m : MethodId} {below : List Frame} {meth : Method} {c : Code} {b L : Nat} {xs : Nat → Int32} {ad : Nat → Nat} {D : va_G} {T : Nat → ClassId} {h : xH} {H : Heap} {locs : List Loc} {cl sl i : Nat} {ls : Array Slot} (C : LCx p l s m c b L xs ad D T) (g : LG h) (hP : XP ad D T h H) (hS : va_S (fun q => s.heap.size ≤ q) s.heap H locs) (hl : lv_has ls 7 [(4, .int (nI (6 * i))), (0, .ref b), (1, .ref (ad 0)), (2, .ref (ad 60)), (3, .ref (ad 100))]) (hi : 6 * i + 6 ≤ L) (hc : cl + 2 ≤ 601024) (hs : sl + 12 ≤ 7293034)
    (kk : ∀ (h' : xH) (H' : Heap) (locs' : List Loc) (ls' : Array Slot), LG h' → XP ad D T h' H' → va_S (fun q => s.heap.size ≤ q) s.heap H' locs' → lv_has ls' 7 [(4, .int (nI (6 * i))), (0, .ref b), (1, .ref (ad 0)), (2, .ref (ad 60)), (3, .ref (ad 100))] → W p l e room_1 s m #[Value.ref b] below meth c H' locs' (cl + 2) (sl + 12) (lw_Z below #[Value.ref b] s) (F0 m 1617 ls' [])) : W p l e room_1 s m #[Value.ref b] below meth c H locs cl sl (lw_Z below #[Value.ref b] s) (F0 m 711 ls []) := by
  obtain ⟨hx, hb, hml, hown, hts, hX, hbl, hl9, hA, hK, hN, hL⟩ := C
  have hB0 := Nat.le_refl s.heap.size
  have hbA : ¬ (fun q : Nat => s.heap.size ≤ q) b := Nat.not_le.mpr hbl
  have hin1 : vp_in (nI (6 * i) + 1) L := xin_k hi hL 1 (by decide)
  have hJ : Ends3 (fun k b q => q 60 0 = k ∧ (k = 0 → q 100 0 = b) ∧ LG q) := fun k b q a1 a2 a3 => ⟨a1, a2, a3⟩
  refine lv_aload_n hx hb dL_law_711 rfl (lv_at hl 2 rfl) ?_
  refine lv_aload_n hx hb dL_law_712 rfl (lv_at hl 1 rfl) ?_
  refine lv_iload hx hb dL_law_713 (lv_at hl 0 rfl) ?_
  refine lv_iconst (v := 1) hx hb dL_law_715 (by decide) ?_
  refine lv_iadd hx hb dL_law_716 ?_
  refine va_sld hx hb hX hbl hbA hS hin1 dL_law_717 ?_
  refine lv_aload_n hx hb dL_law_718 rfl (lv_at hl 4 rfl) ?_
  refine xg_calli (vx_runSW (As := [.ref (ad 0), .int (xs (nI (6 * i) + 1).toNatClampNeg), .ref (ad 100)]) (rest := []) ⟨hx, hb, hml, hown, hts⟩ (c_L_rotate l hl9 hA (xs (nI (6 * i) + 1).toNatClampNeg) (op_rotate g hJ)) (vx_cwSW 3 hts gL_law_L_rotate rfl rfl rfl (by decide +kernel) ⟨Nat.le_of_ble_eq_true rfl, Nat.le_of_ble_eq_true rfl⟩) (xg_preS hB0 hP hK hN hS) rfl rfl hl.1 rfl (lv_room (Nat.le_of_ble_eq_true rfl)) dL_law_719 ⟨by show _ ≤ 601024; omega, by show _ ≤ 7293034; omega⟩) hS (fun k h1 H locs hw hP hS => ?_)
  refine lv_istore (lv' := [(5, .int k), (4, .int (nI (6 * i))), (0, .ref b), (1, .ref (ad 0)), (2, .ref (ad 60)), (3, .ref (ad 100))]) hx hb dL_law_722 hl (by decide) rfl (fun ls hl => ?_)
  refine lv_aload_n hx hb dL_law_724 rfl (lv_at hl 4 rfl) ?_
  refine lv_aload_n hx hb dL_law_725 rfl (lv_at hl 2 rfl) ?_
  refine lv_iload hx hb dL_law_726 (lv_at hl 1 rfl) ?_
  refine lv_iconst (v := 1) hx hb dL_law_728 (by decide) ?_
  refine lv_iadd hx hb dL_law_729 ?_
  refine va_sld hx hb hX hbl hbA hS hin1 dL_law_730 ?_
  refine xg_calli (va_runV (As := [.int (xs (nI (6 * i) + 1).toNatClampNeg)]) (rest := []) ⟨hx, hb, hml, hown, hts⟩ (c_X6_rotate l hl9 hA (xs (nI (6 * i) + 1).toNatClampNeg) hw) (cwV 1 hts gL_law_X6_rotate rfl rfl rfl (by decide +kernel) ⟨Nat.le_of_ble_eq_true rfl, Nat.le_of_ble_eq_true rfl⟩) (xg_preV hB0 hP hK hN hS xs60 rfl) rfl rfl hl.1 rfl (lv_room (Nat.le_of_ble_eq_true rfl)) dL_law_731 ⟨by show _ ≤ 601024; omega, by show _ ≤ 7293034; omega⟩) hS (fun bb h2 H locs hw hP hS => ?_)
  obtain ⟨e1, e2, g2⟩ := hw
  refine lv_istore (lv' := [(6, .int bb), (5, .int k), (4, .int (nI (6 * i))), (0, .ref b), (1, .ref (ad 0)), (2, .ref (ad 60)), (3, .ref (ad 100))]) hx hb dL_law_734 hl (by decide) rfl (fun ls hl => ?_)
  refine lv_aload_n hx hb dL_law_736 rfl (lv_at hl 5 rfl) ?_
  refine xg_calli (va_runV (As := []) (rest := []) ⟨hx, hb, hml, hown, hts⟩ (c_X6_thrown l hl9 hA (h := h2) (K := fun r q => r = h2 60 0 ∧ q = h2) ⟨rfl, rfl⟩) (cwV 0 hts gL_law_X6_thrown rfl rfl rfl (by decide +kernel) ⟨Nat.le_of_ble_eq_true rfl, Nat.le_of_ble_eq_true rfl⟩) (xg_preV hB0 hP hK hN hS xs60 rfl) rfl rfl hl.1 rfl (lv_room (Nat.le_of_ble_eq_true rfl)) dL_law_737 ⟨by show _ ≤ 601024; omega, by show _ ≤ 7293034; omega⟩) hS (fun r3 h3 H locs hw3 hP hS => ?_)
  obtain ⟨rfl, eh3⟩ := hw3
  rw [eh3] at hP
  refine lv_iload hx hb dL_law_740 (lv_at hl 1 rfl) ?_
  refine lv_icmp_eq (tgt := 747) hx hb dL_law_742 (by decide) (fun _ => ?_) (fun cz => absurd e1 cz)
  refine lv_iload hx hb dL_law_747 (lv_at hl 1 rfl) ?_
  refine lv_if_ne (tgt := 764) hx hb dL_law_749 (by decide) (fun _ => ?_) (fun k0 => ?_)
  · refine lv_goto (tgt := 1617) hx hb dL_law_764 (by decide) ?_
    refine W.widen (k := cl + 2) (n := sl + 12) (by omega) (by omega) ?_
    exact kk _ _ _ _ g2 hP hS (lv_sub hl [2, 3, 4, 5, 6] rfl)
  · refine lv_aload_n hx hb dL_law_752 rfl (lv_at hl 6 rfl) ?_
    refine lv_iconst (v := 0) hx hb dL_law_753 (by decide) ?_
    refine xg_lald hx hb hK hP xs100 xin01 dL_law_754 ?_
    rw [x32_00]
    refine lv_iload hx hb dL_law_755 (lv_at hl 0 rfl) ?_
    refine lv_i2l (v := bb.toInt64) hx hb dL_law_757 rfl ?_
    refine xg_lcmpeq hx hb dL_law_758 dL_law_759 (tgt := 764) (by decide) (fun _ => ?_) (fun cz => absurd (e2 k0) cz)
    refine lv_goto (tgt := 1617) hx hb dL_law_764 (by decide) ?_
    refine W.widen (k := cl + 2) (n := sl + 12) (by omega) (by omega) ?_
    exact kk _ _ _ _ g2 hP hS (lv_sub hl [2, 3, 4, 5, 6] rfl)
set_option maxHeartbeats 4000000 in
set_option maxRecDepth 100000 in
theorem lk_8 {p : Program} {l : Launch} {e : Env} {s : State} {m : MethodId} {below : List Frame} {meth : Method} {c : Code} {b L : Nat} {xs : Nat → Int32} {ad : Nat → Nat} {D : va_G} {T : Nat → ClassId} {h : xH} {H : Heap} {locs : List Loc} {cl sl i : Nat} {ls : Array Slot} (C : LCx p l s m c b L xs ad D T) (g : LG h) (hP : XP ad D T h H) (hS : va_S (fun q => s.heap.size ≤ q) s.heap H locs) (hl : lv_has ls 7 [(4, .int (nI (6 * i))), (0, .ref b), (1, .ref (ad 0)), (2, .ref (ad 60)), (3, .ref (ad 100))]) (hi : 6 * i + 6 ≤ L) (hc : cl + 2 ≤ 601024) (hs : sl + 12 ≤ 7293034)
    (kk : ∀ (h' : xH) (H' : Heap) (locs' : List Loc) (ls' : Array Slot), LG h' → XP ad D T h' H' → va_S (fun q => s.heap.size ≤ q) s.heap H' locs' → lv_has ls' 7 [(4, .int (nI (6 * i))), (0, .ref b), (1, .ref (ad 0)), (2, .ref (ad 60)), (3, .ref (ad 100))] → W p l e room_1 s m #[Value.ref b] below meth c H' locs' (cl + 2) (sl + 12) (lw_Z below #[Value.ref b] s) (F0 m 1617 ls' [])) : W p l e room_1 s m #[Value.ref b] below meth c H locs cl sl (lw_Z below #[Value.ref b] s) (F0 m 767 ls []) := by
  obtain ⟨hx, hb, hml, hown, hts, hX, hbl, hl9, hA, hK, hN, hL⟩ := C
  have hB0 := Nat.le_refl s.heap.size
  have hbA : ¬ (fun q : Nat => s.heap.size ≤ q) b := Nat.not_le.mpr hbl
  have hJ : Ends3 (fun k b q => q 60 0 = k ∧ (k = 0 → q 100 0 = b) ∧ LG q) := fun k b q a1 a2 a3 => ⟨a1, a2, a3⟩
  refine lv_aload_n hx hb dL_law_767 rfl (lv_at hl 2 rfl) ?_
  refine lv_aload_n hx hb dL_law_768 rfl (lv_at hl 4 rfl) ?_
  refine xg_calli (vx_runSW (As := [.ref (ad 0), .ref (ad 100)]) (rest := []) ⟨hx, hb, hml, hown, hts⟩ (c_L_connect l hl9 hA (op_connect g hJ)) (vx_cwSW 2 hts gL_law_L_connect rfl rfl rfl (by decide +kernel) ⟨Nat.le_of_ble_eq_true rfl, Nat.le_of_ble_eq_true rfl⟩) (xg_preS hB0 hP hK hN hS) rfl rfl hl.1 rfl (lv_room (Nat.le_of_ble_eq_true rfl)) dL_law_769 ⟨by show _ ≤ 601024; omega, by show _ ≤ 7293034; omega⟩) hS (fun k h1 H locs hw hP hS => ?_)
  refine lv_istore (lv' := [(5, .int k), (4, .int (nI (6 * i))), (0, .ref b), (1, .ref (ad 0)), (2, .ref (ad 60)), (3, .ref (ad 100))]) hx hb dL_law_772 hl (by decide) rfl (fun ls hl => ?_)
  refine lv_aload_n hx hb dL_law_774 rfl (lv_at hl 4 rfl) ?_
  refine xg_calli (va_runV (As := []) (rest := []) ⟨hx, hb, hml, hown, hts⟩ (c_X6_connect l hl9 hA hw) (cwV 0 hts gL_law_X6_connect rfl rfl rfl (by decide +kernel) ⟨Nat.le_of_ble_eq_true rfl, Nat.le_of_ble_eq_true rfl⟩) (xg_preV hB0 hP hK hN hS xs60 rfl) rfl rfl hl.1 rfl (lv_room (Nat.le_of_ble_eq_true rfl)) dL_law_775 ⟨by show _ ≤ 601024; omega, by show _ ≤ 7293034; omega⟩) hS (fun bb h2 H locs hw hP hS => ?_)
  obtain ⟨e1, e2, g2⟩ := hw
  refine lv_istore (lv' := [(6, .int bb), (5, .int k), (4, .int (nI (6 * i))), (0, .ref b), (1, .ref (ad 0)), (2, .ref (ad 60)), (3, .ref (ad 100))]) hx hb dL_law_778 hl (by decide) rfl (fun ls hl => ?_)
  refine lv_aload_n hx hb dL_law_780 rfl (lv_at hl 5 rfl) ?_
  refine xg_calli (va_runV (As := []) (rest := []) ⟨hx, hb, hml, hown, hts⟩ (c_X6_thrown l hl9 hA (h := h2) (K := fun r q => r = h2 60 0 ∧ q = h2) ⟨rfl, rfl⟩) (cwV 0 hts gL_law_X6_thrown rfl rfl rfl (by decide +kernel) ⟨Nat.le_of_ble_eq_true rfl, Nat.le_of_ble_eq_true rfl⟩) (xg_preV hB0 hP hK hN hS xs60 rfl) rfl rfl hl.1 rfl (lv_room (Nat.le_of_ble_eq_true rfl)) dL_law_781 ⟨by show _ ≤ 601024; omega, by show _ ≤ 7293034; omega⟩) hS (fun r3 h3 H locs hw3 hP hS => ?_)
  obtain ⟨rfl, eh3⟩ := hw3
  rw [eh3] at hP
  refine lv_iload hx hb dL_law_784 (lv_at hl 1 rfl) ?_
  refine lv_icmp_eq (tgt := 791) hx hb dL_law_786 (by decide) (fun _ => ?_) (fun cz => absurd e1 cz)
  refine lv_iload hx hb dL_law_791 (lv_at hl 1 rfl) ?_
  refine lv_if_ne (tgt := 808) hx hb dL_law_793 (by decide) (fun _ => ?_) (fun k0 => ?_)
  · refine lv_goto (tgt := 1617) hx hb dL_law_808 (by decide) ?_
    refine W.widen (k := cl + 2) (n := sl + 12) (by omega) (by omega) ?_
    exact kk _ _ _ _ g2 hP hS (lv_sub hl [2, 3, 4, 5, 6] rfl)
  · refine lv_aload_n hx hb dL_law_796 rfl (lv_at hl 6 rfl) ?_
    refine lv_iconst (v := 0) hx hb dL_law_797 (by decide) ?_
    refine xg_lald hx hb hK hP xs100 xin01 dL_law_798 ?_
    rw [x32_00]
    refine lv_iload hx hb dL_law_799 (lv_at hl 0 rfl) ?_
    refine lv_i2l (v := bb.toInt64) hx hb dL_law_801 rfl ?_
    refine xg_lcmpeq hx hb dL_law_802 dL_law_803 (tgt := 808) (by decide) (fun _ => ?_) (fun cz => absurd (e2 k0) cz)
    refine lv_goto (tgt := 1617) hx hb dL_law_808 (by decide) ?_
    refine W.widen (k := cl + 2) (n := sl + 12) (by omega) (by omega) ?_
    exact kk _ _ _ _ g2 hP hS (lv_sub hl [2, 3, 4, 5, 6] rfl)
set_option maxHeartbeats 4000000 in
set_option maxRecDepth 100000 in
theorem lk_9 {p : Program} {l : Launch} {e : Env} {s : State} {m : MethodId} {below : List Frame} {meth : Method} {c : Code} {b L : Nat} {xs : Nat → Int32} {ad : Nat → Nat} {D : va_G} {T : Nat → ClassId} {h : xH} {H : Heap} {locs : List Loc} {cl sl i : Nat} {ls : Array Slot} (C : LCx p l s m c b L xs ad D T) (g : LG h) (hP : XP ad D T h H) (hS : va_S (fun q => s.heap.size ≤ q) s.heap H locs) (hl : lv_has ls 7 [(4, .int (nI (6 * i))), (0, .ref b), (1, .ref (ad 0)), (2, .ref (ad 60)), (3, .ref (ad 100))]) (hi : 6 * i + 6 ≤ L) (hc : cl + 2 ≤ 601024) (hs : sl + 12 ≤ 7293034)
    (kk : ∀ (h' : xH) (H' : Heap) (locs' : List Loc) (ls' : Array Slot), LG h' → XP ad D T h' H' → va_S (fun q => s.heap.size ≤ q) s.heap H' locs' → lv_has ls' 7 [(4, .int (nI (6 * i))), (0, .ref b), (1, .ref (ad 0)), (2, .ref (ad 60)), (3, .ref (ad 100))] → W p l e room_1 s m #[Value.ref b] below meth c H' locs' (cl + 2) (sl + 12) (lw_Z below #[Value.ref b] s) (F0 m 1617 ls' [])) : W p l e room_1 s m #[Value.ref b] below meth c H locs cl sl (lw_Z below #[Value.ref b] s) (F0 m 811 ls []) := by
  obtain ⟨hx, hb, hml, hown, hts, hX, hbl, hl9, hA, hK, hN, hL⟩ := C
  have hB0 := Nat.le_refl s.heap.size
  have hbA : ¬ (fun q : Nat => s.heap.size ≤ q) b := Nat.not_le.mpr hbl
  have hJ : Ends3 (fun k b q => q 60 0 = k ∧ (k = 0 → q 100 0 = b) ∧ LG q) := fun k b q a1 a2 a3 => ⟨a1, a2, a3⟩
  refine lv_aload_n hx hb dL_law_811 rfl (lv_at hl 2 rfl) ?_
  refine lv_aload_n hx hb dL_law_812 rfl (lv_at hl 4 rfl) ?_
  refine xg_calli (vx_runSW (As := [.ref (ad 0), .ref (ad 100)]) (rest := []) ⟨hx, hb, hml, hown, hts⟩ (c_L_disconnect l hl9 hA (op_disconnect g hJ)) (vx_cwSW 2 hts gL_law_L_disconnect rfl rfl rfl (by decide +kernel) ⟨Nat.le_of_ble_eq_true rfl, Nat.le_of_ble_eq_true rfl⟩) (xg_preS hB0 hP hK hN hS) rfl rfl hl.1 rfl (lv_room (Nat.le_of_ble_eq_true rfl)) dL_law_813 ⟨by show _ ≤ 601024; omega, by show _ ≤ 7293034; omega⟩) hS (fun k h1 H locs hw hP hS => ?_)
  refine lv_istore (lv' := [(5, .int k), (4, .int (nI (6 * i))), (0, .ref b), (1, .ref (ad 0)), (2, .ref (ad 60)), (3, .ref (ad 100))]) hx hb dL_law_816 hl (by decide) rfl (fun ls hl => ?_)
  refine lv_aload_n hx hb dL_law_818 rfl (lv_at hl 4 rfl) ?_
  refine xg_calli (va_runV (As := []) (rest := []) ⟨hx, hb, hml, hown, hts⟩ (c_X6_disconnect l hl9 hA hw) (cwV 0 hts gL_law_X6_disconnect rfl rfl rfl (by decide +kernel) ⟨Nat.le_of_ble_eq_true rfl, Nat.le_of_ble_eq_true rfl⟩) (xg_preV hB0 hP hK hN hS xs60 rfl) rfl rfl hl.1 rfl (lv_room (Nat.le_of_ble_eq_true rfl)) dL_law_819 ⟨by show _ ≤ 601024; omega, by show _ ≤ 7293034; omega⟩) hS (fun bb h2 H locs hw hP hS => ?_)
  obtain ⟨e1, e2, g2⟩ := hw
  refine lv_istore (lv' := [(6, .int bb), (5, .int k), (4, .int (nI (6 * i))), (0, .ref b), (1, .ref (ad 0)), (2, .ref (ad 60)), (3, .ref (ad 100))]) hx hb dL_law_822 hl (by decide) rfl (fun ls hl => ?_)
  refine lv_aload_n hx hb dL_law_824 rfl (lv_at hl 5 rfl) ?_
  refine xg_calli (va_runV (As := []) (rest := []) ⟨hx, hb, hml, hown, hts⟩ (c_X6_thrown l hl9 hA (h := h2) (K := fun r q => r = h2 60 0 ∧ q = h2) ⟨rfl, rfl⟩) (cwV 0 hts gL_law_X6_thrown rfl rfl rfl (by decide +kernel) ⟨Nat.le_of_ble_eq_true rfl, Nat.le_of_ble_eq_true rfl⟩) (xg_preV hB0 hP hK hN hS xs60 rfl) rfl rfl hl.1 rfl (lv_room (Nat.le_of_ble_eq_true rfl)) dL_law_825 ⟨by show _ ≤ 601024; omega, by show _ ≤ 7293034; omega⟩) hS (fun r3 h3 H locs hw3 hP hS => ?_)
  obtain ⟨rfl, eh3⟩ := hw3
  rw [eh3] at hP
  refine lv_iload hx hb dL_law_828 (lv_at hl 1 rfl) ?_
  refine lv_icmp_eq (tgt := 835) hx hb dL_law_830 (by decide) (fun _ => ?_) (fun cz => absurd e1 cz)
  refine lv_iload hx hb dL_law_835 (lv_at hl 1 rfl) ?_
  refine lv_if_ne (tgt := 852) hx hb dL_law_837 (by decide) (fun _ => ?_) (fun k0 => ?_)
  · refine lv_goto (tgt := 1617) hx hb dL_law_852 (by decide) ?_
    refine W.widen (k := cl + 2) (n := sl + 12) (by omega) (by omega) ?_
    exact kk _ _ _ _ g2 hP hS (lv_sub hl [2, 3, 4, 5, 6] rfl)
  · refine lv_aload_n hx hb dL_law_840 rfl (lv_at hl 6 rfl) ?_
    refine lv_iconst (v := 0) hx hb dL_law_841 (by decide) ?_
    refine xg_lald hx hb hK hP xs100 xin01 dL_law_842 ?_
    rw [x32_00]
    refine lv_iload hx hb dL_law_843 (lv_at hl 0 rfl) ?_
    refine lv_i2l (v := bb.toInt64) hx hb dL_law_845 rfl ?_
    refine xg_lcmpeq hx hb dL_law_846 dL_law_847 (tgt := 852) (by decide) (fun _ => ?_) (fun cz => absurd (e2 k0) cz)
    refine lv_goto (tgt := 1617) hx hb dL_law_852 (by decide) ?_
    refine W.widen (k := cl + 2) (n := sl + 12) (by omega) (by omega) ?_
    exact kk _ _ _ _ g2 hP hS (lv_sub hl [2, 3, 4, 5, 6] rfl)
set_option maxHeartbeats 4000000 in
set_option maxRecDepth 100000 in
theorem lk_10 {p : Program} {l : Launch} {e : Env} {s : State} {m : MethodId} {below : List Frame} {meth : Method} {c : Code} {b L : Nat} {xs : Nat → Int32} {ad : Nat → Nat} {D : va_G} {T : Nat → ClassId} {h : xH} {H : Heap} {locs : List Loc} {cl sl i : Nat} {ls : Array Slot} (C : LCx p l s m c b L xs ad D T) (g : LG h) (hP : XP ad D T h H) (hS : va_S (fun q => s.heap.size ≤ q) s.heap H locs) (hl : lv_has ls 7 [(4, .int (nI (6 * i))), (0, .ref b), (1, .ref (ad 0)), (2, .ref (ad 60)), (3, .ref (ad 100))]) (hi : 6 * i + 6 ≤ L) (hc : cl + 2 ≤ 601024) (hs : sl + 12 ≤ 7293034)
    (kk : ∀ (h' : xH) (H' : Heap) (locs' : List Loc) (ls' : Array Slot), LG h' → XP ad D T h' H' → va_S (fun q => s.heap.size ≤ q) s.heap H' locs' → lv_has ls' 7 [(4, .int (nI (6 * i))), (0, .ref b), (1, .ref (ad 0)), (2, .ref (ad 60)), (3, .ref (ad 100))] → W p l e room_1 s m #[Value.ref b] below meth c H' locs' (cl + 2) (sl + 12) (lw_Z below #[Value.ref b] s) (F0 m 1617 ls' [])) : W p l e room_1 s m #[Value.ref b] below meth c H locs cl sl (lw_Z below #[Value.ref b] s) (F0 m 855 ls []) := by
  obtain ⟨hx, hb, hml, hown, hts, hX, hbl, hl9, hA, hK, hN, hL⟩ := C
  have hB0 := Nat.le_refl s.heap.size
  have hbA : ¬ (fun q : Nat => s.heap.size ≤ q) b := Nat.not_le.mpr hbl
  have hJ : Ends3 (fun k b q => q 60 0 = k ∧ (k = 0 → q 100 0 = b) ∧ LG q) := fun k b q a1 a2 a3 => ⟨a1, a2, a3⟩
  refine lv_aload_n hx hb dL_law_855 rfl (lv_at hl 2 rfl) ?_
  refine lv_aload_n hx hb dL_law_856 rfl (lv_at hl 4 rfl) ?_
  refine xg_calli (vx_runSW (As := [.ref (ad 0), .ref (ad 100)]) (rest := []) ⟨hx, hb, hml, hown, hts⟩ (c_L_send l hl9 hA (op_send g hJ)) (vx_cwSW 2 hts gL_law_L_send rfl rfl rfl (by decide +kernel) ⟨Nat.le_of_ble_eq_true rfl, Nat.le_of_ble_eq_true rfl⟩) (xg_preS hB0 hP hK hN hS) rfl rfl hl.1 rfl (lv_room (Nat.le_of_ble_eq_true rfl)) dL_law_857 ⟨by show _ ≤ 601024; omega, by show _ ≤ 7293034; omega⟩) hS (fun k h1 H locs hw hP hS => ?_)
  refine lv_istore (lv' := [(5, .int k), (4, .int (nI (6 * i))), (0, .ref b), (1, .ref (ad 0)), (2, .ref (ad 60)), (3, .ref (ad 100))]) hx hb dL_law_860 hl (by decide) rfl (fun ls hl => ?_)
  refine lv_aload_n hx hb dL_law_862 rfl (lv_at hl 4 rfl) ?_
  refine xg_calli (va_runV (As := []) (rest := []) ⟨hx, hb, hml, hown, hts⟩ (c_X6_send l hl9 hA hw) (cwV 0 hts gL_law_X6_send rfl rfl rfl (by decide +kernel) ⟨Nat.le_of_ble_eq_true rfl, Nat.le_of_ble_eq_true rfl⟩) (xg_preV hB0 hP hK hN hS xs60 rfl) rfl rfl hl.1 rfl (lv_room (Nat.le_of_ble_eq_true rfl)) dL_law_863 ⟨by show _ ≤ 601024; omega, by show _ ≤ 7293034; omega⟩) hS (fun bb h2 H locs hw hP hS => ?_)
  obtain ⟨e1, e2, g2⟩ := hw
  refine lv_istore (lv' := [(6, .int bb), (5, .int k), (4, .int (nI (6 * i))), (0, .ref b), (1, .ref (ad 0)), (2, .ref (ad 60)), (3, .ref (ad 100))]) hx hb dL_law_866 hl (by decide) rfl (fun ls hl => ?_)
  refine lv_aload_n hx hb dL_law_868 rfl (lv_at hl 5 rfl) ?_
  refine xg_calli (va_runV (As := []) (rest := []) ⟨hx, hb, hml, hown, hts⟩ (c_X6_thrown l hl9 hA (h := h2) (K := fun r q => r = h2 60 0 ∧ q = h2) ⟨rfl, rfl⟩) (cwV 0 hts gL_law_X6_thrown rfl rfl rfl (by decide +kernel) ⟨Nat.le_of_ble_eq_true rfl, Nat.le_of_ble_eq_true rfl⟩) (xg_preV hB0 hP hK hN hS xs60 rfl) rfl rfl hl.1 rfl (lv_room (Nat.le_of_ble_eq_true rfl)) dL_law_869 ⟨by show _ ≤ 601024; omega, by show _ ≤ 7293034; omega⟩) hS (fun r3 h3 H locs hw3 hP hS => ?_)
  obtain ⟨rfl, eh3⟩ := hw3
  rw [eh3] at hP
  refine lv_iload hx hb dL_law_872 (lv_at hl 1 rfl) ?_
  refine lv_icmp_eq (tgt := 879) hx hb dL_law_874 (by decide) (fun _ => ?_) (fun cz => absurd e1 cz)
  refine lv_iload hx hb dL_law_879 (lv_at hl 1 rfl) ?_
  refine lv_if_ne (tgt := 896) hx hb dL_law_881 (by decide) (fun _ => ?_) (fun k0 => ?_)
  · refine lv_goto (tgt := 1617) hx hb dL_law_896 (by decide) ?_
    refine W.widen (k := cl + 2) (n := sl + 12) (by omega) (by omega) ?_
    exact kk _ _ _ _ g2 hP hS (lv_sub hl [2, 3, 4, 5, 6] rfl)
  · refine lv_aload_n hx hb dL_law_884 rfl (lv_at hl 6 rfl) ?_
    refine lv_iconst (v := 0) hx hb dL_law_885 (by decide) ?_
    refine xg_lald hx hb hK hP xs100 xin01 dL_law_886 ?_
    rw [x32_00]
    refine lv_iload hx hb dL_law_887 (lv_at hl 0 rfl) ?_
    refine lv_i2l (v := bb.toInt64) hx hb dL_law_889 rfl ?_
    refine xg_lcmpeq hx hb dL_law_890 dL_law_891 (tgt := 896) (by decide) (fun _ => ?_) (fun cz => absurd (e2 k0) cz)
    refine lv_goto (tgt := 1617) hx hb dL_law_896 (by decide) ?_
    refine W.widen (k := cl + 2) (n := sl + 12) (by omega) (by omega) ?_
    exact kk _ _ _ _ g2 hP hS (lv_sub hl [2, 3, 4, 5, 6] rfl)
set_option maxHeartbeats 4000000 in
set_option maxRecDepth 100000 in
theorem lk_11 {p : Program} {l : Launch} {e : Env} {s : State} {m : MethodId} {below : List Frame} {meth : Method} {c : Code} {b L : Nat} {xs : Nat → Int32} {ad : Nat → Nat} {D : va_G} {T : Nat → ClassId} {h : xH} {H : Heap} {locs : List Loc} {cl sl i : Nat} {ls : Array Slot} (C : LCx p l s m c b L xs ad D T) (g : LG h) (hP : XP ad D T h H) (hS : va_S (fun q => s.heap.size ≤ q) s.heap H locs) (hl : lv_has ls 7 [(4, .int (nI (6 * i))), (0, .ref b), (1, .ref (ad 0)), (2, .ref (ad 60)), (3, .ref (ad 100))]) (hi : 6 * i + 6 ≤ L) (hc : cl + 2 ≤ 601024) (hs : sl + 12 ≤ 7293034)
    (kk : ∀ (h' : xH) (H' : Heap) (locs' : List Loc) (ls' : Array Slot), LG h' → XP ad D T h' H' → va_S (fun q => s.heap.size ≤ q) s.heap H' locs' → lv_has ls' 7 [(4, .int (nI (6 * i))), (0, .ref b), (1, .ref (ad 0)), (2, .ref (ad 60)), (3, .ref (ad 100))] → W p l e room_1 s m #[Value.ref b] below meth c H' locs' (cl + 2) (sl + 12) (lw_Z below #[Value.ref b] s) (F0 m 1617 ls' [])) : W p l e room_1 s m #[Value.ref b] below meth c H locs cl sl (lw_Z below #[Value.ref b] s) (F0 m 899 ls []) := by
  obtain ⟨hx, hb, hml, hown, hts, hX, hbl, hl9, hA, hK, hN, hL⟩ := C
  have hB0 := Nat.le_refl s.heap.size
  have hbA : ¬ (fun q : Nat => s.heap.size ≤ q) b := Nat.not_le.mpr hbl
  have hJ : Ends3 (fun k b q => q 60 0 = k ∧ (k = 0 → q 100 0 = b) ∧ LG q) := fun k b q a1 a2 a3 => ⟨a1, a2, a3⟩
  refine lv_aload_n hx hb dL_law_899 rfl (lv_at hl 2 rfl) ?_
  refine lv_aload_n hx hb dL_law_900 rfl (lv_at hl 4 rfl) ?_
  refine xg_calli (vx_runSW (As := [.ref (ad 0), .ref (ad 100)]) (rest := []) ⟨hx, hb, hml, hown, hts⟩ (c_L_acknowledge l hl9 hA (op_acknowledge g hJ)) (vx_cwSW 2 hts gL_law_L_acknowledge rfl rfl rfl (by decide +kernel) ⟨Nat.le_of_ble_eq_true rfl, Nat.le_of_ble_eq_true rfl⟩) (xg_preS hB0 hP hK hN hS) rfl rfl hl.1 rfl (lv_room (Nat.le_of_ble_eq_true rfl)) dL_law_901 ⟨by show _ ≤ 601024; omega, by show _ ≤ 7293034; omega⟩) hS (fun k h1 H locs hw hP hS => ?_)
  refine lv_istore (lv' := [(5, .int k), (4, .int (nI (6 * i))), (0, .ref b), (1, .ref (ad 0)), (2, .ref (ad 60)), (3, .ref (ad 100))]) hx hb dL_law_904 hl (by decide) rfl (fun ls hl => ?_)
  refine lv_aload_n hx hb dL_law_906 rfl (lv_at hl 4 rfl) ?_
  refine xg_calli (va_runV (As := []) (rest := []) ⟨hx, hb, hml, hown, hts⟩ (c_X6_acknowledge l hl9 hA hw) (cwV 0 hts gL_law_X6_acknowledge rfl rfl rfl (by decide +kernel) ⟨Nat.le_of_ble_eq_true rfl, Nat.le_of_ble_eq_true rfl⟩) (xg_preV hB0 hP hK hN hS xs60 rfl) rfl rfl hl.1 rfl (lv_room (Nat.le_of_ble_eq_true rfl)) dL_law_907 ⟨by show _ ≤ 601024; omega, by show _ ≤ 7293034; omega⟩) hS (fun bb h2 H locs hw hP hS => ?_)
  obtain ⟨e1, e2, g2⟩ := hw
  refine lv_istore (lv' := [(6, .int bb), (5, .int k), (4, .int (nI (6 * i))), (0, .ref b), (1, .ref (ad 0)), (2, .ref (ad 60)), (3, .ref (ad 100))]) hx hb dL_law_910 hl (by decide) rfl (fun ls hl => ?_)
  refine lv_aload_n hx hb dL_law_912 rfl (lv_at hl 5 rfl) ?_
  refine xg_calli (va_runV (As := []) (rest := []) ⟨hx, hb, hml, hown, hts⟩ (c_X6_thrown l hl9 hA (h := h2) (K := fun r q => r = h2 60 0 ∧ q = h2) ⟨rfl, rfl⟩) (cwV 0 hts gL_law_X6_thrown rfl rfl rfl (by decide +kernel) ⟨Nat.le_of_ble_eq_true rfl, Nat.le_of_ble_eq_true rfl⟩) (xg_preV hB0 hP hK hN hS xs60 rfl) rfl rfl hl.1 rfl (lv_room (Nat.le_of_ble_eq_true rfl)) dL_law_913 ⟨by show _ ≤ 601024; omega, by show _ ≤ 7293034; omega⟩) hS (fun r3 h3 H locs hw3 hP hS => ?_)
  obtain ⟨rfl, eh3⟩ := hw3
  rw [eh3] at hP
  refine lv_iload hx hb dL_law_916 (lv_at hl 1 rfl) ?_
  refine lv_icmp_eq (tgt := 923) hx hb dL_law_918 (by decide) (fun _ => ?_) (fun cz => absurd e1 cz)
  refine lv_iload hx hb dL_law_923 (lv_at hl 1 rfl) ?_
  refine lv_if_ne (tgt := 940) hx hb dL_law_925 (by decide) (fun _ => ?_) (fun k0 => ?_)
  · refine lv_goto (tgt := 1617) hx hb dL_law_940 (by decide) ?_
    refine W.widen (k := cl + 2) (n := sl + 12) (by omega) (by omega) ?_
    exact kk _ _ _ _ g2 hP hS (lv_sub hl [2, 3, 4, 5, 6] rfl)
  · refine lv_aload_n hx hb dL_law_928 rfl (lv_at hl 6 rfl) ?_
    refine lv_iconst (v := 0) hx hb dL_law_929 (by decide) ?_
    refine xg_lald hx hb hK hP xs100 xin01 dL_law_930 ?_
    rw [x32_00]
    refine lv_iload hx hb dL_law_931 (lv_at hl 0 rfl) ?_
    refine lv_i2l (v := bb.toInt64) hx hb dL_law_933 rfl ?_
    refine xg_lcmpeq hx hb dL_law_934 dL_law_935 (tgt := 940) (by decide) (fun _ => ?_) (fun cz => absurd (e2 k0) cz)
    refine lv_goto (tgt := 1617) hx hb dL_law_940 (by decide) ?_
    refine W.widen (k := cl + 2) (n := sl + 12) (by omega) (by omega) ?_
    exact kk _ _ _ _ g2 hP hS (lv_sub hl [2, 3, 4, 5, 6] rfl)
set_option maxHeartbeats 4000000 in
set_option maxRecDepth 100000 in
theorem lk_12 {p : Program} {l : Launch} {e : Env} {s : State} {m : MethodId} {below : List Frame} {meth : Method} {c : Code} {b L : Nat} {xs : Nat → Int32} {ad : Nat → Nat} {D : va_G} {T : Nat → ClassId} {h : xH} {H : Heap} {locs : List Loc} {cl sl i : Nat} {ls : Array Slot} (C : LCx p l s m c b L xs ad D T) (g : LG h) (hP : XP ad D T h H) (hS : va_S (fun q => s.heap.size ≤ q) s.heap H locs) (hl : lv_has ls 7 [(4, .int (nI (6 * i))), (0, .ref b), (1, .ref (ad 0)), (2, .ref (ad 60)), (3, .ref (ad 100))]) (hi : 6 * i + 6 ≤ L) (hc : cl + 2 ≤ 601024) (hs : sl + 12 ≤ 7293034)
    (kk : ∀ (h' : xH) (H' : Heap) (locs' : List Loc) (ls' : Array Slot), LG h' → XP ad D T h' H' → va_S (fun q => s.heap.size ≤ q) s.heap H' locs' → lv_has ls' 7 [(4, .int (nI (6 * i))), (0, .ref b), (1, .ref (ad 0)), (2, .ref (ad 60)), (3, .ref (ad 100))] → W p l e room_1 s m #[Value.ref b] below meth c H' locs' (cl + 2) (sl + 12) (lw_Z below #[Value.ref b] s) (F0 m 1617 ls' [])) : W p l e room_1 s m #[Value.ref b] below meth c H locs cl sl (lw_Z below #[Value.ref b] s) (F0 m 943 ls []) := by
  obtain ⟨hx, hb, hml, hown, hts, hX, hbl, hl9, hA, hK, hN, hL⟩ := C
  have hB0 := Nat.le_refl s.heap.size
  have hbA : ¬ (fun q : Nat => s.heap.size ≤ q) b := Nat.not_le.mpr hbl
  have hJ2 : Ends2 (fun a b q => a = b ∧ LG q) := fun a q gq => ⟨rfl, gq⟩
  refine lv_aload_n hx hb dL_law_943 rfl (lv_at hl 2 rfl) ?_
  refine xg_calli (va_runV (As := []) (rest := []) ⟨hx, hb, hml, hown, hts⟩ (c_X5_time l hl9 hA (op_time g hJ2)) (cwV 0 hts gL_law_X5_time rfl rfl rfl (by decide +kernel) ⟨Nat.le_of_ble_eq_true rfl, Nat.le_of_ble_eq_true rfl⟩) (xg_preV hB0 hP hK hN hS xs0 rfl) rfl rfl hl.1 rfl (lv_room (Nat.le_of_ble_eq_true rfl)) dL_law_944 ⟨by show _ ≤ 601024; omega, by show _ ≤ 7293034; omega⟩) hS (fun k h1 H locs hw hP hS => ?_)
  refine lv_aload_n hx hb dL_law_947 rfl (lv_at hl 3 rfl) ?_
  refine xg_calli (va_runV (As := []) (rest := [.int k]) ⟨hx, hb, hml, hown, hts⟩ (c_X6_time l hl9 hA hw) (cwV 0 hts gL_law_X6_time rfl rfl rfl (by decide +kernel) ⟨Nat.le_of_ble_eq_true rfl, Nat.le_of_ble_eq_true rfl⟩) (xg_preV hB0 hP hK hN hS xs60 rfl) rfl rfl hl.1 rfl (lv_room (Nat.le_of_ble_eq_true rfl)) dL_law_948 ⟨by show _ ≤ 601024; omega, by show _ ≤ 7293034; omega⟩) hS (fun bb h2 H locs hw hP hS => ?_)
  obtain ⟨rfl, g2⟩ := hw
  refine lv_icmp_eq (tgt := 1617) hx hb dL_law_951 (by decide) (fun _ => ?_) (fun cz => absurd rfl cz)
  refine W.widen (k := cl + 2) (n := sl + 12) (by omega) (by omega) ?_
  exact kk _ _ _ _ g2 hP hS (lv_sub hl [0, 1, 2, 3, 4] rfl)
set_option maxHeartbeats 4000000 in
set_option maxRecDepth 100000 in
theorem lk_13 {p : Program} {l : Launch} {e : Env} {s : State} {m : MethodId} {below : List Frame} {meth : Method} {c : Code} {b L : Nat} {xs : Nat → Int32} {ad : Nat → Nat} {D : va_G} {T : Nat → ClassId} {h : xH} {H : Heap} {locs : List Loc} {cl sl i : Nat} {ls : Array Slot} (C : LCx p l s m c b L xs ad D T) (g : LG h) (hP : XP ad D T h H) (hS : va_S (fun q => s.heap.size ≤ q) s.heap H locs) (hl : lv_has ls 7 [(4, .int (nI (6 * i))), (0, .ref b), (1, .ref (ad 0)), (2, .ref (ad 60)), (3, .ref (ad 100))]) (hi : 6 * i + 6 ≤ L) (hc : cl + 2 ≤ 601024) (hs : sl + 12 ≤ 7293034)
    (kk : ∀ (h' : xH) (H' : Heap) (locs' : List Loc) (ls' : Array Slot), LG h' → XP ad D T h' H' → va_S (fun q => s.heap.size ≤ q) s.heap H' locs' → lv_has ls' 7 [(4, .int (nI (6 * i))), (0, .ref b), (1, .ref (ad 0)), (2, .ref (ad 60)), (3, .ref (ad 100))] → W p l e room_1 s m #[Value.ref b] below meth c H' locs' (cl + 2) (sl + 12) (lw_Z below #[Value.ref b] s) (F0 m 1617 ls' [])) : W p l e room_1 s m #[Value.ref b] below meth c H locs cl sl (lw_Z below #[Value.ref b] s) (F0 m 956 ls []) := by
  obtain ⟨hx, hb, hml, hown, hts, hX, hbl, hl9, hA, hK, hN, hL⟩ := C
  have hB0 := Nat.le_refl s.heap.size
  have hbA : ¬ (fun q : Nat => s.heap.size ≤ q) b := Nat.not_le.mpr hbl
  have hin1 : vp_in (nI (6 * i) + 1) L := xin_k hi hL 1 (by decide)
  have hJ : Ends3 (fun k b q => q 60 0 = k ∧ (k = 0 → q 100 0 = b) ∧ LG q) := fun k b q a1 a2 a3 => ⟨a1, a2, a3⟩
  refine lv_aload_n hx hb dL_law_956 rfl (lv_at hl 2 rfl) ?_
  refine lv_aload_n hx hb dL_law_957 rfl (lv_at hl 1 rfl) ?_
  refine lv_iload hx hb dL_law_958 (lv_at hl 0 rfl) ?_
  refine lv_iconst (v := 1) hx hb dL_law_960 (by decide) ?_
  refine lv_iadd hx hb dL_law_961 ?_
  refine va_sld hx hb hX hbl hbA hS hin1 dL_law_962 ?_
  refine lv_aload_n hx hb dL_law_963 rfl (lv_at hl 4 rfl) ?_
  refine xg_calli (vx_runSW (As := [.ref (ad 0), .int (xs (nI (6 * i) + 1).toNatClampNeg), .ref (ad 100)]) (rest := []) ⟨hx, hb, hml, hown, hts⟩ (c_L_tokens l hl9 hA (xs (nI (6 * i) + 1).toNatClampNeg) (op_tokens g hJ)) (vx_cwSW 3 hts gL_law_L_tokens rfl rfl rfl (by decide +kernel) ⟨Nat.le_of_ble_eq_true rfl, Nat.le_of_ble_eq_true rfl⟩) (xg_preS hB0 hP hK hN hS) rfl rfl hl.1 rfl (lv_room (Nat.le_of_ble_eq_true rfl)) dL_law_964 ⟨by show _ ≤ 601024; omega, by show _ ≤ 7293034; omega⟩) hS (fun k h1 H locs hw hP hS => ?_)
  refine lv_istore (lv' := [(5, .int k), (4, .int (nI (6 * i))), (0, .ref b), (1, .ref (ad 0)), (2, .ref (ad 60)), (3, .ref (ad 100))]) hx hb dL_law_967 hl (by decide) rfl (fun ls hl => ?_)
  refine lv_aload_n hx hb dL_law_969 rfl (lv_at hl 4 rfl) ?_
  refine lv_aload_n hx hb dL_law_970 rfl (lv_at hl 2 rfl) ?_
  refine lv_iload hx hb dL_law_971 (lv_at hl 1 rfl) ?_
  refine lv_iconst (v := 1) hx hb dL_law_973 (by decide) ?_
  refine lv_iadd hx hb dL_law_974 ?_
  refine va_sld hx hb hX hbl hbA hS hin1 dL_law_975 ?_
  refine xg_calli (va_runV (As := [.int (xs (nI (6 * i) + 1).toNatClampNeg)]) (rest := []) ⟨hx, hb, hml, hown, hts⟩ (c_X6_tokens l hl9 hA (xs (nI (6 * i) + 1).toNatClampNeg) hw) (cwV 1 hts gL_law_X6_tokens rfl rfl rfl (by decide +kernel) ⟨Nat.le_of_ble_eq_true rfl, Nat.le_of_ble_eq_true rfl⟩) (xg_preV hB0 hP hK hN hS xs60 rfl) rfl rfl hl.1 rfl (lv_room (Nat.le_of_ble_eq_true rfl)) dL_law_976 ⟨by show _ ≤ 601024; omega, by show _ ≤ 7293034; omega⟩) hS (fun bb h2 H locs hw hP hS => ?_)
  obtain ⟨e1, e2, g2⟩ := hw
  refine lv_istore (lv' := [(6, .int bb), (5, .int k), (4, .int (nI (6 * i))), (0, .ref b), (1, .ref (ad 0)), (2, .ref (ad 60)), (3, .ref (ad 100))]) hx hb dL_law_979 hl (by decide) rfl (fun ls hl => ?_)
  refine lv_aload_n hx hb dL_law_981 rfl (lv_at hl 5 rfl) ?_
  refine xg_calli (va_runV (As := []) (rest := []) ⟨hx, hb, hml, hown, hts⟩ (c_X6_thrown l hl9 hA (h := h2) (K := fun r q => r = h2 60 0 ∧ q = h2) ⟨rfl, rfl⟩) (cwV 0 hts gL_law_X6_thrown rfl rfl rfl (by decide +kernel) ⟨Nat.le_of_ble_eq_true rfl, Nat.le_of_ble_eq_true rfl⟩) (xg_preV hB0 hP hK hN hS xs60 rfl) rfl rfl hl.1 rfl (lv_room (Nat.le_of_ble_eq_true rfl)) dL_law_982 ⟨by show _ ≤ 601024; omega, by show _ ≤ 7293034; omega⟩) hS (fun r3 h3 H locs hw3 hP hS => ?_)
  obtain ⟨rfl, eh3⟩ := hw3
  rw [eh3] at hP
  refine lv_iload hx hb dL_law_985 (lv_at hl 1 rfl) ?_
  refine lv_icmp_eq (tgt := 992) hx hb dL_law_987 (by decide) (fun _ => ?_) (fun cz => absurd e1 cz)
  refine lv_iload hx hb dL_law_992 (lv_at hl 1 rfl) ?_
  refine lv_if_ne (tgt := 1009) hx hb dL_law_994 (by decide) (fun _ => ?_) (fun k0 => ?_)
  · refine lv_goto (tgt := 1617) hx hb dL_law_1009 (by decide) ?_
    refine W.widen (k := cl + 2) (n := sl + 12) (by omega) (by omega) ?_
    exact kk _ _ _ _ g2 hP hS (lv_sub hl [2, 3, 4, 5, 6] rfl)
  · refine lv_aload_n hx hb dL_law_997 rfl (lv_at hl 6 rfl) ?_
    refine lv_iconst (v := 0) hx hb dL_law_998 (by decide) ?_
    refine xg_lald hx hb hK hP xs100 xin01 dL_law_999 ?_
    rw [x32_00]
    refine lv_iload hx hb dL_law_1000 (lv_at hl 0 rfl) ?_
    refine lv_i2l (v := bb.toInt64) hx hb dL_law_1002 rfl ?_
    refine xg_lcmpeq hx hb dL_law_1003 dL_law_1004 (tgt := 1009) (by decide) (fun _ => ?_) (fun cz => absurd (e2 k0) cz)
    refine lv_goto (tgt := 1617) hx hb dL_law_1009 (by decide) ?_
    refine W.widen (k := cl + 2) (n := sl + 12) (by omega) (by omega) ?_
    exact kk _ _ _ _ g2 hP hS (lv_sub hl [2, 3, 4, 5, 6] rfl)
