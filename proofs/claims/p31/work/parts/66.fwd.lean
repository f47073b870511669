/-! THE LAW'S STEP OF THE FORWARDER -/
theorem C_que {h : xH} {K : Int32 → xH → Prop} (hK : K (h 4 1 - h 4 2) h) : w_X5_queued h K := hK
theorem C_inf {h : xH} {K : Int32 → xH → Prop} (hK : K (h 4 2 - h 4 3) h) : w_X5_inFlight h K := hK
theorem IB_w {t b k f n N : Nat} {cf cf' : Int32} {kp tk r fr d : Nat → Nat} {h h' : xH} (q : IB t b k f n N cf kp tk r fr d h) (ao : ∀ a, a ≤ 53 → a ≠ 4 → h' a = h a) (g : h' 101 = h 101) (w : WI N (fw (h 8) n) cf' (h' 4) (h 5)) : IB t b k f n N cf' kp tk r fr d h' := by
  obtain ⟨p, si, li, ri, ff, wi⟩ := q
  refine ⟨?_, fun s hs => ?_, ?_, fun r hr => ?_, fun q hq => ?_, ?_⟩
  · unfold PI at p ⊢; rw [ao 0 (by decide) (by decide)]; exact p
  · rw [ao (10 + s) (by omega) (by omega)]; exact si s hs
  · unfold LI at li ⊢; rw [ao 6 (by decide) (by decide), ao 7 (by decide) (by decide), ao 8 (by decide) (by decide)]; exact li
  · rw [ao (20 + r) (by omega) (by omega)]; exact ri r hr
  · have e8 : TH h' q = TH h q := by unfold TH; rw [ao 8 (by decide) (by decide)]
    rw [e8, ao (30 + q) (by omega) (by omega), ao (30 + q + 10) (by omega) (by omega), ao (30 + q + 20) (by omega) (by omega), g]
    exact ff q hq
  · rw [ao 5 (by decide) (by decide), ao 8 (by decide) (by decide)]; exact w
theorem NM_fr {n N : Nat} {r d : Nat → Nat} {h h' : xH} (q : NM n N r d h) (e : h' 7 = h 7) : NM n N r d h' := by unfold NM at q ⊢; rw [e]; exact q
theorem L_forwards {T v : Nat} {p : Int32} {h : xH} {K : Int32 → xH → Prop} (hp : p = nI v) (hv : v < 2 ^ 31) (q : IV T h) (hK : ∀ h', IV T h' → K 1 h') : w_L_forwards p h K := by
  subst hp
  obtain ⟨t, b, k, f, n, N, cf, kp, tk, r, fr, d, ht, ib, nm, ⟨⟨c0, c1, c2, c3, c4, c5⟩, c6⟩⟩ := q
  obtain ⟨e, q, a, l, ⟨w1, w2, w3, w4, w5⟩, ⟨y1, y2, y3, y4, y5, y6⟩, z1, z2, z3⟩ := id ib.2.2.2.2.2
  have hn : n ≤ 60 := by obtain ⟨⟨-, -, -, -, -, -, -, z⟩, -⟩ := ib; exact z
  obtain ⟨hN, -, -⟩ := NM_N nm hn
  have eq1 : h 4 1 - h 4 2 = nI (e - q) := by rw [w1, w2]; exact pk_sub y2
  have eq2 : h 4 2 - h 4 3 = nI (q - a) := by rw [w2, w3]; exact pk_sub y1
  refine C_que (C_inf ?_)
  rw [eq1, eq2]
  have x5 : vp_in 5 14 := vp_in_nI (n := 5) (by decide) (by decide)
  refine ⟨x5, ?_⟩
  rw [cl5, c5]
  by_cases hcf : cf = 0
  · refine BT hcf ⟨x5, ?_⟩
    intro h36 e36
    have hqa := z3 hcf
    refine BT (by rw [hqa, Nat.sub_self]; rfl) ?_
    have o : ∀ j, j ≠ 102 → h36 j = h j := fun j hj => by rw [e36]; exact xup_row hj
    refine BT (by rw [o 4 (by decide), w5]; exact hcf) ?_
    intro h2 e2
    have o2 : ∀ j, j ≠ 4 → j ≠ 102 → h2 j = h j := fun j h4 h5 => by rw [e2, xup_row h4]; exact o j h5
    have r4 : ∀ j, j ≠ 5 → h2 4 j = h 4 j := fun j hj => by rw [e2, xup_ne (Or.inr hj), o 4 (by decide)]
    have r5 : h2 4 5 = 1 := by rw [e2, xup_same]
    have rc : ∀ j, j ≠ 5 → h2 102 j = h 102 j := fun j hj => by rw [e2, xup_row (show (102 : Nat) ≠ 4 by decide), e36, xup_ne (Or.inr hj)]
    have rc5 : h2 102 5 = 1 := by rw [e2, xup_row (show (102 : Nat) ≠ 4 by decide), e36, xup_same]
    refine BT (by rw [r4 1 (by decide), r4 2 (by decide)]; exact eq1) ?_
    refine hK h2 ⟨t, b, k, f, n, N, 1, kp, tk, r, fr, d, ht, IB_w ib (fun j h1 h2 => o2 j h2 (by omega)) (o2 101 (by decide) (by decide)) ⟨e, q, a, l, ⟨by rw [r4 1 (by decide)]; exact w1, by rw [r4 2 (by decide)]; exact w2, by rw [r4 3 (by decide)]; exact w3, by rw [r4 4 (by decide)]; exact w4, r5⟩, ⟨y1, y2, y3, y4, y5, y6⟩, z1, Or.inr rfl, fun z => absurd z (by decide)⟩, NM_fr nm (o2 7 (by decide) (by decide)), ⟨by rw [rc 0 (by decide)]; exact c0, by rw [rc 1 (by decide)]; exact c1, by rw [rc 2 (by decide)]; exact c2, by rw [rc 3 (by decide)]; exact c3, by rw [rc 4 (by decide)]; exact c4, rc5⟩, fun q hq => by rw [rc (6 + q) (by omega)]; exact c6 q hq⟩
  · refine BF hcf ?_
    have e5 : nI v - nI v / 5 * 5 = nI (v % 5) := pk_rem (d := 5) hv (by decide) (by decide)
    have e2 : nI v - nI v / 2 * 2 = nI (v % 2) := pk_rem (d := 2) hv (by decide) (by decide)
    rw [e5, e2]
    have p143 : w_L_forwards_143 (nI v) K (nI (e - q)) (nI (q - a)) h := by
      have p181 : ∀ h', IV T h' → w_L_forwards_181 (nI v) K h' := fun h' i => hK h' i
      by_cases c1' : e - q = 0
      · exact BT (by rw [c1']; rfl) (p181 h ⟨t, b, k, f, n, N, cf, kp, tk, r, fr, d, ht, ib, nm, ⟨c0, c1, c2, c3, c4, c5⟩, c6⟩)
      · refine BF (nI_ne0 (by omega) (by omega)) ?_
        by_cases c2' : q - a = 5
        · exact BT (by rw [c2']; rfl) (p181 h ⟨t, b, k, f, n, N, cf, kp, tk, r, fr, d, ht, ib, nm, ⟨c0, c1, c2, c3, c4, c5⟩, c6⟩)
        · refine BF (fun z => c2' ((nI_eq (by omega) (by decide)).mp z)) ?_
          refine BF (by rw [w5]; exact hcf) ?_
          refine BF (by rw [eq1]; exact nI_nle (by omega) (by omega)) ?_
          refine BF (by rw [eq2]; exact nI_ge (show q - a < 5 by omega) (by decide)) (T1 ?_)
          unfold w_X0_sendFirst
          rw [w2]
          refine C_fwdAt (by omega) ?_
          intro h44 e44
          have r4 : ∀ j, j ≠ 2 → h44 4 j = h 4 j := fun j hj => by rw [e44, xup_ne (Or.inr hj)]
          have r2 : h44 4 2 = nI (q + 1) := by rw [e44, xup_same, w2, nI_1]
          have o : ∀ j, j ≠ 4 → h44 j = h j := fun j hj => by rw [e44]; exact xup_row hj
          refine BF (z1 q (by omega)) (C_inf ?_)
          rw [r2, r4 3 (by decide), w3, pk_sub (show a ≤ q + 1 by omega)]
          refine BT (by rw [nI_1]; congr 1; omega) (C_que ?_)
          rw [r2, r4 1 (by decide), w1, pk_sub (show q + 1 ≤ e by omega)]
          refine BT (by
            have := nI_pred (e - q - 1)
            rw [show e - q - 1 + 1 = e - q by omega] at this
            rw [this]; congr 1) (p181 h44 ?_)
          exact ⟨t, b, k, f, n, N, cf, kp, tk, r, fr, d, ht, IB_w ib (fun j h1 h2 => o j h2) (o 101 (by decide)) ⟨e, q + 1, a, l, ⟨by rw [r4 1 (by decide)]; exact w1, r2, by rw [r4 3 (by decide)]; exact w3, by rw [r4 4 (by decide)]; exact w4, by rw [r4 5 (by decide)]; exact w5⟩, ⟨by omega, by omega, by omega, y4, y5, y6⟩, z1, z2, fun z => absurd z hcf⟩, NM_fr nm (o 7 (by decide)), ⟨by rw [o 102 (by decide)]; exact c0, by rw [o 102 (by decide)]; exact c1, by rw [o 102 (by decide)]; exact c2, by rw [o 102 (by decide)]; exact c3, by rw [o 102 (by decide)]; exact c4, by rw [o 102 (by decide)]; exact c5⟩, fun q hq => by rw [o 102 (by decide)]; exact c6 q hq⟩
    by_cases c5' : v % 5 = 0
    · refine BT (by rw [c5']; rfl) ⟨x5, ?_⟩
      intro h25 e25
      have o : ∀ j, j ≠ 102 → h25 j = h j := fun j hj => by rw [e25]; exact xup_row hj
      refine BF (by rw [o 4 (by decide), w5]; exact hcf) ?_
      intro h1 e1 h2 e2'
      have o2 : ∀ j, j ≠ 4 → j ≠ 102 → h2 j = h j := fun j h4 h5 => by rw [e2', xup_row h4, e1, xup_row h4]; exact o j h5
      have r4 : ∀ j, j ≠ 2 → j ≠ 5 → h2 4 j = h 4 j := fun j hj h5 => by rw [e2', xup_ne (Or.inr hj), e1, xup_ne (Or.inr h5), o 4 (by decide)]
      have r5 : h2 4 5 = 0 := by rw [e2', xup_ne (Or.inr (by decide)), e1, xup_same]
      have r2 : h2 4 2 = nI a := by rw [e2', xup_same, e1, xup_ne (Or.inr (by decide)), o 4 (by decide)]; exact w3
      have rc : ∀ j, j ≠ 5 → h2 102 j = h 102 j := fun j hj => by rw [e2', xup_row (show (102 : Nat) ≠ 4 by decide), e1, xup_row (show (102 : Nat) ≠ 4 by decide), e25, xup_ne (Or.inr hj)]
      have rc5 : h2 102 5 = 0 := by rw [e2', xup_row (show (102 : Nat) ≠ 4 by decide), e1, xup_row (show (102 : Nat) ≠ 4 by decide), e25, xup_same]
      refine BT (by rw [o 4 (by decide)]; exact eq2) (C_que ?_)
      rw [r2, r4 1 (by decide) (by decide), w1, pk_sub (show a ≤ e by omega)]
      refine BT (by rw [nI_add]; congr 1; omega) (C_inf ?_)
      rw [r2, r4 3 (by decide) (by decide), w3]
      refine BT (by rw [pk_sub (Nat.le_refl a), Nat.sub_self]; rfl) ?_
      exact hK h2 ⟨t, b, k, f, n, N, 0, kp, tk, r, fr, d, ht, IB_w ib (fun j h1 h2 => o2 j h2 (by omega)) (o2 101 (by decide) (by decide)) ⟨e, a, a, l, ⟨by rw [r4 1 (by decide) (by decide)]; exact w1, r2, by rw [r4 3 (by decide) (by decide)]; exact w3, by rw [r4 4 (by decide) (by decide)]; exact w4, r5⟩, ⟨by omega, by omega, by omega, y4, y5, y6⟩, z1, Or.inl rfl, fun _ => rfl⟩, NM_fr nm (o2 7 (by decide) (by decide)), ⟨by rw [rc 0 (by decide)]; exact c0, by rw [rc 1 (by decide)]; exact c1, by rw [rc 2 (by decide)]; exact c2, by rw [rc 3 (by decide)]; exact c3, by rw [rc 4 (by decide)]; exact c4, rc5⟩, fun q hq => by rw [rc (6 + q) (by omega)]; exact c6 q hq⟩
    · refine BF (nI_ne0 (by omega) (by omega)) ?_
      by_cases c2' : v % 2 = 0
      · refine BT (by rw [c2']; rfl) ?_
        by_cases c3' : q - a = 0
        · exact BT (by rw [c3']; decide) p143
        · refine BF (nI_nle (by omega) (by omega)) ?_
          refine BF (by rw [eq2]; exact nI_ne0 (by omega) (by omega)) ?_
          unfold w_X0_acknowledgeFirst
          rw [w3]
          refine C_fwdAt (by omega) ?_
          intro h13 e13
          have r4 : ∀ j, j ≠ 3 → h13 4 j = h 4 j := fun j hj => by rw [e13, xup_ne (Or.inr hj)]
          have r3 : h13 4 3 = nI (a + 1) := by rw [e13, xup_same, w3, nI_1]
          have o : ∀ j, j ≠ 4 → h13 j = h j := fun j hj => by rw [e13]; exact xup_row hj
          refine BF (z1 a (by omega)) (BT (by rw [r3, nI_1]) (C_inf ?_))
          rw [r3, r4 2 (by decide), w2, pk_sub (show a + 1 ≤ q by omega)]
          refine BT (by
            have := nI_pred (q - a - 1)
            rw [show q - a - 1 + 1 = q - a by omega] at this
            rw [this]; congr 1) (C_que ?_)
          rw [r4 1 (by decide), r4 2 (by decide)]
          refine BT eq1 (hK h13 ?_)
          exact ⟨t, b, k, f, n, N, cf, kp, tk, r, fr, d, ht, IB_w ib (fun j h1 h2 => o j h2) (o 101 (by decide)) ⟨e, q, a + 1, l, ⟨by rw [r4 1 (by decide)]; exact w1, by rw [r4 2 (by decide)]; exact w2, r3, by rw [r4 4 (by decide)]; exact w4, by rw [r4 5 (by decide)]; exact w5⟩, ⟨by omega, by omega, by omega, by omega, y5, y6⟩, z1, z2, fun z => absurd z hcf⟩, NM_fr nm (o 7 (by decide)), ⟨by rw [o 102 (by decide)]; exact c0, by rw [o 102 (by decide)]; exact c1, by rw [o 102 (by decide)]; exact c2, by rw [o 102 (by decide)]; exact c3, by rw [o 102 (by decide)]; exact c4, by rw [o 102 (by decide)]; exact c5⟩, fun q hq => by rw [o 102 (by decide)]; exact c6 q hq⟩
      · exact BF (nI_ne0 (by omega) (by omega)) p143
