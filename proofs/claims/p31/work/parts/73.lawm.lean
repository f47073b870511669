/-! THE LAW'S OWN METHODS: draw; isLedger with its row of counts -/
theorem at_i {D : va_G} {cl : List vw_C} {a n : Nat} {cA : ClassId} {f g : Nat → Int32} {H : Heap} (h : va_at D cl (a, .inl (cA, n, .inl f)) H) (e : ∀ j, j < n → f j = g j) : va_at D cl (a, .inl (cA, n, .inl g)) H := by
  have h1 : H[a]? = some (vp_cell cA (n, .inl f)) := h
  show H[a]? = some (vp_cell cA (n, .inl g))
  rw [h1]
  simp only [vp_cell, arrV]
  congr 3
  funext j
  rw [e j.val j.isLt]
theorem at_q {D : va_G} {cl : List vw_C} {a n : Nat} {cA : ClassId} {f g : Nat → Option Nat} {H : Heap} (h : va_at D cl (a, .inl (cA, n, .inr (.inr (.inr (.inr f))))) H) (e : ∀ j, j < n → f j = g j) : va_at D cl (a, .inl (cA, n, .inr (.inr (.inr (.inr g))))) H := by
  have h1 : H[a]? = some (vp_cell cA (n, .inr (.inr (.inr (.inr f))))) := h
  show H[a]? = some (vp_cell cA (n, .inr (.inr (.inr (.inr g)))))
  rw [h1]
  simp only [vp_cell, arrV]
  congr 3
  funext j
  rw [e j.val j.isLt]
theorem c_L_draw (l : Launch) {B0 : Nat} {ad : Nat → Nat} {D : va_G} {T : Nat → ClassId} {b L k : Nat} {xs : Nat → Int32} (hk : k < L) (hL : L < 2 ^ 31) {h : xH} {K : Int32 → xH → Prop} (hw : K (xs k &&& 2147483647) h) : Met l yL_draw wsL_draw ({ frames := 0, cells := 0, slots := 0, locals := 0 } : Room) (va_Pc [.ref b, .int (nI k)] (fun U => XW B0 ad D T h U ∧ va_X b L xs U U.heap ∧ b < U.heap.size ∧ b < B0)) (XQ B0 ad D T xei K) 0 0 (fun q => B0 ≤ q) := by
  refine Met.ofW (cc := cL_draw) (maxL := 2) (ret := some .int) (by decide) rfl ?_
  intro p e s m args below meth c s₁ B hml hv
  obtain ⟨rfl, ⟨hB0, hP, hK, hN⟩, hX, hbl, hbB⟩ := hv
  have hx := B.exec
  have hb := B.bytes
  have hr := B.returns
  have hts := atoms_spec (ws := wsL_draw) B.pre
  have hown : s.vm.findClass RL = some m.cls := findClass_of_methodNamed B.named
  have hlocks := B.notSynchronized
  have hbA : ¬ (fun q : Nat => B0 ≤ q) b := Nat.not_le.mpr hbB
  have hS : va_S (fun q => B0 ≤ q) s.heap s.heap [] := va_S.rf
  have hl := lv_entry ([.ref b, .int (nI k)]) (n := 2) (Nat.le_of_ble_eq_true rfl)
  rw [lg_entry_eq]
  generalize (lg_sl ([.ref b, .int (nI k)]) ++ List.replicate (2 - (lg_sl ([.ref b, .int (nI k)])).length) Slot.unset).toArray = ls at hl ⊢
  have hl : lv_has ls 2 [(0, .ref b), (1, .int (nI k))] := hl
  refine lv_iload_n hx hb dL_draw_0 rfl (lv_at hl 1 rfl) ?_
  refine lv_aload_n hx hb dL_draw_1 rfl (lv_at hl 0 rfl) ?_
  refine va_slen hx hb hX hbl hbA hS dL_draw_2 ?_
  refine lv_icmp_ge (tgt := 15) hx hb dL_draw_3 (by decide) (fun cz => absurd cz (nI_ge hk hL)) (fun _ => ?_)
  refine lv_aload_n hx hb dL_draw_6 rfl (lv_at hl 0 rfl) ?_
  refine lv_iload_n hx hb dL_draw_7 rfl (lv_at hl 1 rfl) ?_
  refine va_sld hx hb hX hbl hbA hS (vp_in_nI hk hL) dL_draw_8 ?_
  refine lv_ldc (v := 2147483647) hx hb hown (hts (.constant RL 7 2147483647) (by decide +kernel)) dL_draw_9 ?_
  refine lv_iand hx hb dL_draw_11 ?_
  refine lv_goto (tgt := 24) hx hb dL_draw_12 (by decide) ?_
  rw [nI_clamp (by omega)]
  exact xg_irets hx hb hr rfl hlocks hB0 hP hK hN hS dL_draw_24 (by decide) (by decide) hw
-- one more cell in the world
def ad1 (ad : Nat → Nat) (q : Nat) : Nat → Nat := fun k => if k = 103 then q else ad k
theorem ad1_s {ad : Nat → Nat} {q : Nat} : ad1 ad q 103 = q := if_pos rfl
theorem ad1_n {ad : Nat → Nat} {q k : Nat} (h : k ≠ 103) : ad1 ad q k = ad k := if_neg h
theorem at_ad {ad ad' : Nat → Nat} {D : va_G} {T : Nat → ClassId} {h h' : xH} {H : Heap} (e : ∀ k, k ≠ 103 → ad' k = ad k) (eh : ∀ k, k ≠ 103 → h' k = h k) {k : Nat} {sh : xSh} (hk : k ≠ 103) (hs : xsh ad k = some sh) (q : va_at D vwCl (ad k, xent ad T h k sh) H) : va_at D vwCl (ad' k, xent ad' T h' k sh) H := by
  rw [e k hk]
  have hr := eh k hk
  by_cases c1 : 10 ≤ k ∧ k < 16
  · cases (xsS (ad := ad) c1).symm.trans hs
    have w : xent ad' T h' k (.inr (4, [none, none, none, none, none, none, none, none, none])) = xent ad T h k (.inr (4, [none, none, none, none, none, none, none, none, none])) := by simp [xent, xfs, xfv, hr]
    rw [w]; exact q
  by_cases c2 : 20 ≤ k ∧ k < 26
  · cases (xsR (ad := ad) c2).symm.trans hs
    have w : xent ad' T h' k (.inr (3, [none, none, none, none, none])) = xent ad T h k (.inr (3, [none, none, none, none, none])) := by simp [xent, xfs, xfv, hr]
    rw [w]; exact q
  by_cases c3 : 30 ≤ k ∧ k < 34
  · cases (xsF (ad := ad) c3).symm.trans hs
    have w : xent ad' T h' k (.inr (2, [some (k + 10), some (k + 20), none, none, none, none, none, none, none, none])) = xent ad T h k (.inr (2, [some (k + 10), some (k + 20), none, none, none, none, none, none, none, none])) := by simp [xent, xfs, xfv, hr, e (k + 10) (by omega), e (k + 20) (by omega)]
    rw [w]; exact q
  by_cases c4 : 40 ≤ k ∧ k < 44
  · have w := xsFr (ad := ad) (k := k - 10) (by omega)
    rw [show k - 10 + 10 = k by omega] at w
    cases w.symm.trans hs
    exact at_i q (fun j _ => by rw [hr])
  by_cases c5 : 50 ≤ k ∧ k < 54
  · have w := xsFs (ad := ad) (k := k - 20) (by omega)
    rw [show k - 20 + 20 = k by omega] at w
    cases w.symm.trans hs
    exact at_i q (fun j _ => by rw [hr])
  by_cases d0 : k = 0
  · subst d0
    cases (xs0 (ad := ad)).symm.trans hs
    have w : xent ad' T h' 0 (.inr (5, [some 1, some 2, some 3, some 4, some 6, none, none, none, none])) = xent ad T h 0 (.inr (5, [some 1, some 2, some 3, some 4, some 6, none, none, none, none])) := by simp [xent, xfs, xfv, hr, e 1 (by decide), e 2 (by decide), e 3 (by decide), e 4 (by decide), e 6 (by decide)]
    rw [w]; exact q
  by_cases d1 : k = 1
  · subst d1
    cases (xs1 (ad := ad)).symm.trans hs
    exact at_q q (fun j hj => by rw [e (10 + j) (by omega)])
  by_cases d2 : k = 2
  · subst d2
    cases (xs2 (ad := ad)).symm.trans hs
    exact at_q q (fun j hj => by rw [e (20 + j) (by omega)])
  by_cases d3 : k = 3
  · subst d3
    cases (xs3 (ad := ad)).symm.trans hs
    exact at_q q (fun j hj => by rw [e (30 + j) (by omega)])
  by_cases d4 : k = 4
  · subst d4
    cases (xs4 (ad := ad)).symm.trans hs
    have w : xent ad' T h' 4 (.inr (0, [some 5, none, none, none, none, none])) = xent ad T h 4 (.inr (0, [some 5, none, none, none, none, none])) := by simp [xent, xfs, xfv, hr, e 5 (by decide)]
    rw [w]; exact q
  by_cases d5 : k = 5
  · subst d5
    cases (xs5 (ad := ad)).symm.trans hs
    exact at_i q (fun j _ => by rw [hr])
  by_cases d6 : k = 6
  · subst d6
    cases (xs6 (ad := ad)).symm.trans hs
    have w : xent ad' T h' 6 (.inr (1, [some 7, some 8, none])) = xent ad T h 6 (.inr (1, [some 7, some 8, none])) := by simp [xent, xfs, xfv, hr, e 7 (by decide), e 8 (by decide)]
    rw [w]; exact q
  by_cases d7 : k = 7
  · subst d7
    cases (xs7 (ad := ad)).symm.trans hs
    exact at_i q (fun j _ => by rw [hr])
  by_cases d8 : k = 8
  · subst d8
    cases (xs8 (ad := ad)).symm.trans hs
    exact at_i q (fun j _ => by rw [hr])
  by_cases d101 : k = 101
  · subst d101
    cases (xs101 (ad := ad)).symm.trans hs
    exact at_i q (fun j _ => by rw [hr])
  by_cases d102 : k = 102
  · subst d102
    cases (xs102 (ad := ad)).symm.trans hs
    exact at_i q (fun j _ => by rw [hr])
  exfalso
  rw [xsh, if_neg c1, if_neg c2, if_neg c3, if_neg c4, if_neg c5, if_neg d0, if_neg d1, if_neg d2, if_neg d3, if_neg d4, if_neg (by omega), if_neg d6, if_neg d101, if_neg d102, if_neg (fun z => hk z.1)] at hs
  cases hs
/-- the state with a row of noughts more -/
def z103 (h : xH) : xH := fun a b => if a = 103 then 0 else h a b
theorem z103_s {h : xH} {b : Nat} : z103 h 103 b = 0 := if_pos rfl
theorem z103_n {h : xH} {a : Nat} (ha : a ≠ 103) : z103 h a = h a := by
  funext b
  exact if_neg ha
theorem XP_put {ad : Nat → Nat} {D : va_G} {T : Nat → ClassId} {h : xH} {H H1 : Heap} {q : Nat} (had : ad 103 = 0) (hq : q ≠ 0) (hP : XP ad D T h H) (o : ∀ k sh, xsh ad k = some sh → H1[ad k]? = H[ad k]?) (hn : va_at D vwCl (q, .inl (T 0, 4, .inl (fun _ => 0))) H1) : XP (ad1 ad q) D T (z103 h) H1 := by
  intro k sh hs
  by_cases z : k = 103
  · subst z
    have e := xs103 (ad := ad1 ad q) (by rw [ad1_s]; exact hq)
    cases hs.symm.trans e
    rw [ad1_s]
    exact at_i hn (fun j _ => z103_s.symm)
  · have hs' : xsh ad k = some sh := by rw [xsh_ne (ad := ad1 ad q) z]; exact hs
    exact at_ad (fun k hk => ad1_n hk) (fun k hk => z103_n hk) z hs' ((hP k sh hs').kept (o k sh hs'))
theorem XP_cut {ad : Nat → Nat} {D : va_G} {T : Nat → ClassId} {h : xH} {H : Heap} {q : Nat} (had : ad 103 = 0) (hP : XP (ad1 ad q) D T h H) : XP ad D T h H := by
  intro k sh hs
  have z : k ≠ 103 := by
    rintro rfl
    rw [xsh_no had] at hs
    cases hs
  have hs' : xsh (ad1 ad q) k = some sh := by rw [xsh_ne (ad := ad) z]; exact hs
  exact at_ad (fun k hk => (ad1_n hk).symm) (fun _ _ => rfl) z hs' (hP k sh hs')
set_option maxHeartbeats 4000000 in
set_option maxRecDepth 100000 in
theorem c_L_isLedger (l : Launch) (hl9 : l.stackTraces = false) {B0 : Nat} {ad : Nat → Nat} {D : va_G} {T : Nat → ClassId} (hA : XA B0 ad) (had : ad 103 = 0) {h : xH} {K : Int32 → xH → Prop} (hw : w_L_isLedger (z103 h) K) : XM l yL_isLedger wsL_isLedger ({ frames := 2, cells := 1, slots := 6, locals := 44 } : Room) B0 ad D T h [.ref (ad (0)), .ref (ad (102))] xei K 1 6 := by
  unfold XM
  refine Met.ofW (cc := cL_isLedger) (maxL := 8) (ret := (some .boolean)) (by decide) rfl ?_
  intro p e s m args below meth c s₁ B hml hv
  obtain ⟨rfl, hB0, hP, hK, hN⟩ := hv
  have hx := B.exec
  have hb := B.bytes
  have hr := B.returns
  have hts := atoms_spec (ws := wsL_isLedger) B.pre
  have hown : s.vm.findClass RL = some m.cls := findClass_of_methodNamed B.named
  have hlocks := B.notSynchronized
  have hS : va_S (fun q => B0 ≤ q) s.heap s.heap [] := va_S.rf
  have hl := lv_entry ([.ref (ad (0)), .ref (ad (102))]) (n := 8) (Nat.le_of_ble_eq_true rfl)
  rw [lg_entry_eq]
  generalize (lg_sl ([.ref (ad (0)), .ref (ad (102))]) ++ List.replicate (8 - (lg_sl ([.ref (ad (0)), .ref (ad (102))])).length) Slot.unset).toArray = ls at hl ⊢
  have hl : lv_has ls 8 [(0, .ref (ad (0))), (1, .ref (ad (102)))] := hl
  refine lv_iconst (v := 4) hx hb dL_isLedger_0 (by decide) ?_
  refine va_newaK hx hb (atype := .int) (hts (.arrayClass .int) (by decide +kernel)) rfl dL_isLedger_1 rfl (N := 4) (by decide) rfl (Nat.le_of_ble_eq_true rfl) (Nat.le_of_ble_eq_true rfl) (Nat.le_of_ble_eq_true rfl) rfl (fun H1 cA e1 z1 o1 hAr hNm => ?_)
  have eA : cA = T 0 := va_RA.u (U := s) (ty := .int) (show va_RA s cA .int from hNm) (hK.2 0 _ rfl).2
  subst eA
  have hq0 : s.heap.size ≠ 0 := by
    have := hP.lt (k := 0) xs0
    omega
  have hlt : ∀ k sh, xsh ad k = some sh → ad k < s.heap.size := fun k sh hs => hP.lt hs
  have hP1 : XP (ad1 ad s.heap.size) D T (z103 h) H1 := XP_put had hq0 hP (fun k sh hs => o1 _ (hlt k sh hs)) e1
  have hA1 : XA B0 (ad1 ad s.heap.size) := by
    refine ⟨fun i j a b hi hj he => ?_, fun i a hi => ?_⟩
    · by_cases zi : i = 103
      · by_cases zj : j = 103
        · rw [zi, zj]
        · exfalso
          rw [zi, ad1_s, ad1_n zj] at he
          have := hlt j b (by rw [xsh_ne (ad := ad1 ad s.heap.size) zj]; exact hj)
          omega
      · by_cases zj : j = 103
        · exfalso
          rw [zj, ad1_s, ad1_n zi] at he
          have := hlt i a (by rw [xsh_ne (ad := ad1 ad s.heap.size) zi]; exact hi)
          omega
        · rw [ad1_n zi, ad1_n zj] at he
          exact hA.1 i j a b (by rw [xsh_ne (ad := ad1 ad s.heap.size) zi]; exact hi) (by rw [xsh_ne (ad := ad1 ad s.heap.size) zj]; exact hj) he
    · by_cases zi : i = 103
      · rw [zi, ad1_s]; exact hB0
      · rw [ad1_n zi]
        exact hA.2 i a (by rw [xsh_ne (ad := ad1 ad s.heap.size) zi]; exact hi)
  have hS1 : va_S (fun q => B0 ≤ q) s.heap H1 [] := ⟨by omega, fun q h1 _ => o1 q h1, fun _ h => by cases h⟩
  refine W.widen (k := 1) (n := 6) (Nat.le_of_ble_eq_true rfl) (Nat.le_of_ble_eq_true rfl) ?_
  refine lv_astore_n (lv' := [(2, .ref s.heap.size), (0, .ref (ad (0))), (1, .ref (ad (102)))]) hx hb dL_isLedger_3 rfl hl (by decide) rfl (fun ls hl => ?_)
  have hl2 : lv_has ls 8 [(0, .ref (ad1 ad s.heap.size (0))), (1, .ref (ad1 ad s.heap.size (102))), (2, .ref (ad1 ad s.heap.size (103)))] := by
    rw [ad1_n (by decide), ad1_n (by decide), ad1_s]
    exact lv_sub hl [1, 2, 0] rfl
  have R := r_L_isLedger l hl9 (ad := ad1 ad s.heap.size) hA1 (by rw [ad1_s]; exact hq0) (h := z103 h) (K := K) (p := p) (e := e) (s := s) (m := m) (below := below) (meth := meth) (c := c) hx hb hr hml hown (by rw [ad1_n (by decide), ad1_n (by decide)]; exact hts) hlocks hB0 hK hN hw H1 [] ls hP1 hS1 hl2
  rw [ad1_n (show (0 : Nat) ≠ 103 by decide), ad1_n (show (102 : Nat) ≠ 103 by decide)] at R
  intro T9 hT X
  obtain ⟨t, a, o, b1, b2, ⟨⟨r9, h9, c1, c2, c3⟩, c4⟩, b4⟩ := R T9 hT X
  exact ⟨t, a, o, b1, b2, ⟨⟨r9, h9, c1, c2, XP_cut had c3⟩, c4⟩, b4⟩
