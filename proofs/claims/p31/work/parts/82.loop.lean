/-! THE LAW'S LOOP -/
def LCx (p : Program) (l : Launch) (s : State) (m : MethodId) (c : Code) (b L : Nat) (xs : Nat → Int32) (ad : Nat → Nat) (D : va_G) (T : Nat → ClassId) : Prop :=
  p.tables.exec = Jvm.exec ∧ c.code = cL_law ∧ c.maxLocals = 7 ∧ s.vm.findClass RL = some m.cls ∧ (∀ w ∈ wsL_law, w.before #[Value.ref b] s = true) ∧ va_X b L xs s s.heap ∧ b < s.heap.size ∧ l.stackTraces = false ∧ XA s.heap.size ad ∧ XK D T s ∧ L ≤ 260 ∧ ad 103 = 0
theorem IV_103 {T : Nat} {h h' : xH} (q : IV T h) (o : ∀ a, a ≠ 103 → h' a = h a) : IV T h' := by
  obtain ⟨t, b, k, f, n, N, cf, kp, tk, r, fr, d, ht, ib, nm, cv⟩ := q
  exact ⟨t, b, k, f, n, N, cf, kp, tk, r, fr, d, ht, IB_fr ib (fun a ha => o a (by omega)) (fun w _ => by rw [o 101 (by decide)]), NM_fr nm (o 7 (by decide)), CV_fr cv (o 102 (by decide))⟩
theorem d_blind {B0 b L : Nat} {ad : Nat → Nat} {D : va_G} {T : Nat → ClassId} {h : xH} {xs : Nat → Int32} {As : List Value} : FrameBlind (va_Pc As (fun U => XW B0 ad D T h U ∧ va_X b L xs U U.heap ∧ b < U.heap.size ∧ b < B0)) := fun a U g mk q => ⟨q.1, q.2.1.call, va_X.moved (u := U) (U := U.calling g mk a) (Vm.Alike.refl U.vm) q.2.2.1, q.2.2.2⟩
theorem d_pre {s : State} {H : Heap} {locs : List Loc} {b L : Nat} {ad : Nat → Nat} {D : va_G} {T : Nat → ClassId} {h : xH} {xs : Nat → Int32} {As : List Value} (hP : XP ad D T h H) (hK : XK D T s) (hX : va_X b L xs s s.heap) (hbl : b < s.heap.size) (hS : va_S (fun q => s.heap.size ≤ q) s.heap H locs) : PreS s H (va_Pc As (fun U => XW s.heap.size ad D T h U ∧ va_X b L xs U U.heap ∧ b < U.heap.size ∧ b < s.heap.size)) As :=
  ⟨d_blind, fun U hU hW => ⟨rfl, XW.mk (Nat.le_refl _) hP hK trivial hS hU hW, by rw [hU]; exact (hX.kept (hS.2.1 b hbl (Nat.not_le.mpr hbl))).moved hW.alike, by rw [hU]; exact Nat.lt_of_lt_of_le hbl hS.1, hbl⟩⟩
theorem msk (x : Int32) : ∃ w : Nat, w < 2 ^ 31 ∧ x &&& 2147483647 = nI w := ⟨x.toBitVec.toNat % 2 ^ 31, Nat.mod_lt _ (by decide), pk_and x 31 (by decide)⟩
set_option maxHeartbeats 8000000 in
set_option maxRecDepth 100000 in
theorem law_loop {p : Program} {l : Launch} {e : Env} {s : State} {m : MethodId} {below : List Frame} {meth : Method} {c : Code} {b L : Nat} {xs : Nat → Int32} {ad : Nat → Nat} {D : va_G} {T : Nat → ClassId} (C : LCx p l s m c b L xs ad D T) (hr : meth.sig.returnType = ret) (hlocks : meth.locks = false) {st : Nat} (hst : 3 * st ≤ L) :
    ∀ (n k cl sl : Nat) (h : xH) (H : Heap) (locs : List Loc) (ls : Array Slot), k + n = st → cl + n ≤ 600086 → sl + 6 * n ≤ 7301442 → IV (100 * k) h → XP ad D T h H → va_S (fun q => s.heap.size ≤ q) s.heap H locs → lv_has ls 7 [(6, .int (nI k)), (5, .int (nI st)), (4, .int 1), (0, .ref b), (1, .ref (ad 0)), (2, .ref (ad 101)), (3, .ref (ad 102))] → W p l e room_1 s m #[Value.ref b] below meth c H locs cl sl (lw_Z below #[Value.ref b] s) (F0 m 149 ls []) := by
  obtain ⟨hx, hb, hml, hown, hts, hX, hbl, hl9, hA, hK, hL, had⟩ := id C
  have hN : XN s.heap.size s s.heap := trivial
  have hB0 : s.heap.size ≤ s.heap.size := Nat.le_refl _
  intro n
  induction n with
  | zero =>
    intro k cl sl h H locs ls hn hc hs i hP hS hl
    refine lv_iload hx hb dL_law_149 (lv_at hl 0 rfl) ?_
    refine lv_iload hx hb dL_law_151 (lv_at hl 1 rfl) ?_
    refine lv_icmp_ge (tgt := 236) hx hb dL_law_153 (by decide) (fun _ => ?_) (fun cz => absurd (nI_le (show st ≤ k by omega) (by omega)) cz)
    refine lv_iload hx hb dL_law_236 (lv_at hl 2 rfl) ?_
    refine va_forget (fun q hq => hS.2.2 q hq) ?_
    refine W.widen (k := 600086) (n := 7301442) (by omega) (by omega) ?_
    exact lw_ret hx hb hr hlocks dL_law_238
  | succ n ih =>
    intro k cl sl h H locs ls hn hc hs i hP hS hl
    -- the end of a round
    have tail : ∀ (h' : xH) (H' : Heap) (locs' : List Loc) (cl' sl' : Nat), IV (100 * (k + 1)) h' → XP ad D T h' H' → va_S (fun q => s.heap.size ≤ q) s.heap H' locs' → cl' ≤ cl + 1 → sl' ≤ sl + 6 → W p l e room_1 s m #[Value.ref b] below meth c H' locs' cl' sl' (lw_Z below #[Value.ref b] s) (F0 m 223 ls []) := by
      intro h' H' locs' cl' sl' i' hP' hS' hcl hsl
      refine lv_iconst (v := 1) hx hb dL_law_223 (by decide) ?_
      refine lv_goto (tgt := 228) hx hb dL_law_224 (by decide) ?_
      refine lv_istore (lv' := [(4, .int 1), (6, .int (nI k)), (5, .int (nI st)), (0, .ref b), (1, .ref (ad 0)), (2, .ref (ad 101)), (3, .ref (ad 102))]) hx hb dL_law_228 hl (by decide) rfl (fun ls2 hl2 => ?_)
      refine lv_iinc (v := nI (k + 1)) (lv' := [(6, .int (nI (k + 1))), (4, .int 1), (5, .int (nI st)), (0, .ref b), (1, .ref (ad 0)), (2, .ref (ad 101)), (3, .ref (ad 102))]) hx hb dL_law_230 hl2 (k := 1) rfl (nI_1 k) (by decide) rfl (fun ls3 hl3 => ?_)
      refine lv_goto (tgt := 149) hx hb dL_law_233 (by decide) ?_
      have hl4 := lv_sub (l' := [(6, .int (nI (k + 1))), (5, .int (nI st)), (4, .int 1), (0, .ref b), (1, .ref (ad 0)), (2, .ref (ad 101)), (3, .ref (ad 102))]) hl3 [0, 2, 1, 3, 4, 5, 6] rfl
      exact ih (k + 1) cl' sl' h' H' locs' ls3 (by omega) (by omega) (by omega) i' hP' hS' hl4
    refine lv_iload hx hb dL_law_149 (lv_at hl 0 rfl) ?_
    refine lv_iload hx hb dL_law_151 (lv_at hl 1 rfl) ?_
    refine lv_icmp_ge (tgt := 236) hx hb dL_law_153 (by decide) (fun cz => absurd cz (nI_ge (show k < st by omega) (by omega))) (fun _ => ?_)
    refine lv_iload hx hb dL_law_156 (lv_at hl 2 rfl) ?_
    refine lv_if_eq (tgt := 236) hx hb dL_law_158 (by decide) (fun cz => absurd cz (by decide)) (fun _ => ?_)
    refine lv_aload_n hx hb dL_law_161 rfl (lv_at hl 4 rfl) ?_
    refine lv_aload_n hx hb dL_law_162 rfl (lv_at hl 5 rfl) ?_
    refine lv_aload_n hx hb dL_law_163 rfl (lv_at hl 6 rfl) ?_
    refine lv_aload_n hx hb dL_law_164 rfl (lv_at hl 3 rfl) ?_
    refine lv_iconst (v := 3) hx hb dL_law_165 (by decide) ?_
    refine lv_iload hx hb dL_law_166 (lv_at hl 0 rfl) ?_
    refine lv_imul hx hb dL_law_168 ?_
    rw [show (3 : Int32) * nI k = nI (3 * k) from pk_mul 3 k]
    obtain ⟨w1, hw1, ew1⟩ := msk (xs (3 * k))
    refine xg_calli (va_runS (As := [.ref b, .int (nI (3 * k))]) (rest := [.ref (ad 102), .ref (ad 101), .ref (ad 0)]) ⟨hx, hb, hml, hown, hts⟩ (c_L_draw l (B0 := s.heap.size) (ad := ad) (D := D) (T := T) (b := b) (L := L) (k := 3 * k) (xs := xs) (by omega) (by omega) (h := h) (K := fun r h1 => r = nI w1 ∧ h1 = h) ⟨ew1, rfl⟩) (va_cwS 2 hts gL_law_L_draw rfl rfl rfl (by decide +kernel) ⟨Nat.le_of_ble_eq_true rfl, Nat.le_of_ble_eq_true rfl⟩) (d_pre hP hK hX hbl hS) rfl rfl hl.1 rfl (lv_room (Nat.le_of_ble_eq_true rfl)) dL_law_169 ⟨by show _ ≤ 600086; omega, by show _ ≤ 7301442; omega⟩) hS (fun r h1 H locs hw hP hS => ?_)
    obtain ⟨rfl, hh⟩ := hw
    rw [hh] at hP
    clear hh h1
    refine lv_aload_n hx hb dL_law_172 rfl (lv_at hl 3 rfl) ?_
    refine lv_iconst (v := 3) hx hb dL_law_173 (by decide) ?_
    refine lv_iload hx hb dL_law_174 (lv_at hl 0 rfl) ?_
    refine lv_imul hx hb dL_law_176 ?_
    refine lv_iconst (v := 1) hx hb dL_law_177 (by decide) ?_
    refine lv_iadd hx hb dL_law_178 ?_
    rw [show (3 : Int32) * nI k + 1 = nI (3 * k + 1) from by rw [show (3 : Int32) * nI k = nI (3 * k) from pk_mul 3 k]; exact nI_add (3 * k) 1]
    obtain ⟨w2, hw2, ew2⟩ := msk (xs (3 * k + 1))
    refine xg_calli (va_runS (As := [.ref b, .int (nI (3 * k + 1))]) (rest := [.int (nI w1), .ref (ad 102), .ref (ad 101), .ref (ad 0)]) ⟨hx, hb, hml, hown, hts⟩ (c_L_draw l (B0 := s.heap.size) (ad := ad) (D := D) (T := T) (b := b) (L := L) (k := 3 * k + 1) (xs := xs) (by omega) (by omega) (h := h) (K := fun r h1 => r = nI w2 ∧ h1 = h) ⟨ew2, rfl⟩) (va_cwS 2 hts gL_law_L_draw rfl rfl rfl (by decide +kernel) ⟨Nat.le_of_ble_eq_true rfl, Nat.le_of_ble_eq_true rfl⟩) (d_pre hP hK hX hbl hS) rfl rfl hl.1 rfl (lv_room (Nat.le_of_ble_eq_true rfl)) dL_law_179 ⟨by show _ ≤ 600086; omega, by show _ ≤ 7301442; omega⟩) hS (fun r h1 H locs hw hP hS => ?_)
    obtain ⟨rfl, hh⟩ := hw
    rw [hh] at hP
    clear hh h1
    refine lv_aload_n hx hb dL_law_182 rfl (lv_at hl 3 rfl) ?_
    refine lv_iconst (v := 3) hx hb dL_law_183 (by decide) ?_
    refine lv_iload hx hb dL_law_184 (lv_at hl 0 rfl) ?_
    refine lv_imul hx hb dL_law_186 ?_
    refine lv_iconst (v := 2) hx hb dL_law_187 (by decide) ?_
    refine lv_iadd hx hb dL_law_188 ?_
    rw [show (3 : Int32) * nI k + 2 = nI (3 * k + 2) from by rw [show (3 : Int32) * nI k = nI (3 * k) from pk_mul 3 k]; exact nI_add (3 * k) 2]
    obtain ⟨w3, hw3, ew3⟩ := msk (xs (3 * k + 2))
    refine xg_calli (va_runS (As := [.ref b, .int (nI (3 * k + 2))]) (rest := [.int (nI w2), .int (nI w1), .ref (ad 102), .ref (ad 101), .ref (ad 0)]) ⟨hx, hb, hml, hown, hts⟩ (c_L_draw l (B0 := s.heap.size) (ad := ad) (D := D) (T := T) (b := b) (L := L) (k := 3 * k + 2) (xs := xs) (by omega) (by omega) (h := h) (K := fun r h1 => r = nI w3 ∧ h1 = h) ⟨ew3, rfl⟩) (va_cwS 2 hts gL_law_L_draw rfl rfl rfl (by decide +kernel) ⟨Nat.le_of_ble_eq_true rfl, Nat.le_of_ble_eq_true rfl⟩) (d_pre hP hK hX hbl hS) rfl rfl hl.1 rfl (lv_room (Nat.le_of_ble_eq_true rfl)) dL_law_189 ⟨by show _ ≤ 600086; omega, by show _ ≤ 7301442; omega⟩) hS (fun r h1 H locs hw hP hS => ?_)
    obtain ⟨rfl, hh⟩ := hw
    rw [hh] at hP
    clear hh h1
    refine xg_calli (va_runS (As := [.ref (ad 0), .ref (ad 101), .ref (ad 102), .int (nI w1), .int (nI w2), .int (nI w3)]) (rest := []) ⟨hx, hb, hml, hown, hts⟩ (c_L_step l hl9 hA (nI w1) (nI w2) (nI w3) (h := h) (K := fun r h1 => r = 1 ∧ IV (100 * (k + 1)) h1) (L_step hw1 hw2 hw3 i (by omega) (fun h' i' => ⟨rfl, i'⟩))) (va_cwS 6 hts gL_law_L_step rfl rfl rfl (by decide +kernel) ⟨Nat.le_of_ble_eq_true rfl, Nat.le_of_ble_eq_true rfl⟩) (xg_preS hB0 hP hK hN hS) rfl rfl hl.1 rfl (lv_room (Nat.le_of_ble_eq_true rfl)) dL_law_192 ⟨by show _ ≤ 600086; omega, by show _ ≤ 7301442; omega⟩) hS (fun r h1 H locs hw hP hS => ?_)
    obtain ⟨rfl, i1⟩ := hw
    refine lv_if_eq (tgt := 227) hx hb dL_law_195 (by decide) (fun cz => absurd cz (by decide)) (fun _ => ?_)
    refine lv_iload hx hb dL_law_198 (lv_at hl 0 rfl) ?_
    refine lv_iconst (v := 5) hx hb dL_law_200 (by decide) ?_
    refine lv_irem hx hb dL_law_201 (by decide) ?_
    refine lv_iconst (v := 4) hx hb dL_law_202 (by decide) ?_
    refine lv_icmp_lt (tgt := 223) hx hb dL_law_203 (by decide) (fun _ => tail h1 H locs _ _ i1 hP hS (by omega) (by omega)) (fun _ => ?_)
    refine lv_aload_n hx hb dL_law_206 rfl (lv_at hl 4 rfl) ?_
    refine lv_aload_n hx hb dL_law_207 rfl (lv_at hl 5 rfl) ?_
    refine lv_aload_n hx hb dL_law_208 rfl (lv_at hl 6 rfl) ?_
    refine xg_calli (va_runS (As := [.ref (ad 0), .ref (ad 101), .ref (ad 102)]) (rest := []) ⟨hx, hb, hml, hown, hts⟩ (c_L_areFiles l hl9 hA (h := h1) (K := fun r h2 => r = 1 ∧ h2 = h1) (L_areFiles i1 ⟨rfl, rfl⟩)) (va_cwS 3 hts gL_law_L_areFiles rfl rfl rfl (by decide +kernel) ⟨Nat.le_of_ble_eq_true rfl, Nat.le_of_ble_eq_true rfl⟩) (xg_preS hB0 hP hK hN hS) rfl rfl hl.1 rfl (lv_room (Nat.le_of_ble_eq_true rfl)) dL_law_209 ⟨by show _ ≤ 600086; omega, by show _ ≤ 7301442; omega⟩) hS (fun r h2 H locs hw hP hS => ?_)
    obtain ⟨rfl, hh⟩ := hw
    rw [hh] at hP
    clear hh h2
    refine lv_if_eq (tgt := 227) hx hb dL_law_212 (by decide) (fun cz => absurd cz (by decide)) (fun _ => ?_)
    refine lv_aload_n hx hb dL_law_215 rfl (lv_at hl 4 rfl) ?_
    refine lv_aload_n hx hb dL_law_216 rfl (lv_at hl 6 rfl) ?_
    refine xg_calli (va_runS (As := [.ref (ad 0), .ref (ad 102)]) (rest := []) ⟨hx, hb, hml, hown, hts⟩ (c_L_isLedger l hl9 hA had (h := h1) (K := fun r h2 => r = 1 ∧ IV (100 * (k + 1)) h2) (L_isLedger (IV_103 i1 (fun a ha => z103_n ha)) (fun _ _ => z103_s) (fun h' i' => ⟨rfl, i'⟩))) (va_cwS 2 hts gL_law_L_isLedger rfl rfl rfl (by decide +kernel) ⟨Nat.le_of_ble_eq_true rfl, Nat.le_of_ble_eq_true rfl⟩) (xg_preS hB0 hP hK hN hS) rfl rfl hl.1 rfl (lv_room (Nat.le_of_ble_eq_true rfl)) dL_law_217 ⟨by show _ ≤ 600086; omega, by show _ ≤ 7301442; omega⟩) hS (fun r h2 H locs hw hP hS => ?_)
    obtain ⟨rfl, i2⟩ := hw
    refine lv_if_eq (tgt := 227) hx hb dL_law_220 (by decide) (fun cz => absurd cz (by decide)) (fun _ => ?_)
    exact tail h2 H locs _ _ i2 hP hS (by omega) (by omega)
