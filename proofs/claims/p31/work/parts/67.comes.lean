/-! THE LAW'S STEP OF A MESSAGE -/
theorem C_mes {h : xH} {K : Int32 → xH → Prop} (hK : K (h 6 2) h) : w_X5_messages h K := hK
theorem T1' {A B : Prop} (h : B) : ((1 : Int32) = 0 → A) ∧ (¬ (1 : Int32) = 0 → B) := T1 h
theorem L_comes {T s fa sv tx ln : Nat} {p0 p1 p2 p3 p4 : Int32} {h : xH} {K : Int32 → xH → Prop} (e0 : p0 = nI s) (e1 : p1 = nI fa) (e2 : p2 = nI sv) (e3 : p3 = nI tx) (e4 : p4 = nI (ln + 1)) (hs : s < 6) (hfa : fa < 8) (hsv : sv < 8) (htx : tx < 100) (hln : ln < 200) (q : IV T h) (h60 : ¬ h 102 0 = 60) (hK : ∀ h', IV T h' → K 1 h') : w_L_comes p0 p1 p2 p3 p4 h K := by
  subst e0 e1 e2 e3 e4
  obtain ⟨t, b, k, f, n, N, cf, kp, tk, r, fr, d, ht, ib, nm, ⟨⟨c0, c1, c2, c3, c4, c5⟩, c6⟩⟩ := q
  have hn60 : n ≤ 60 := by obtain ⟨⟨-, -, -, -, -, -, -, z⟩, -⟩ := ib; exact z
  have hn : n ≤ 59 := by
    rcases Nat.lt_or_ge n 60 with z | z
    · omega
    · exfalso; apply h60; rw [c0, show n = 60 by omega]; rfl
  obtain ⟨⟨s0, s1, s2, s3, s4⟩, s5, s6⟩ := ib.2.1 s hs
  have x0 : vp_in 0 14 := vp_in_nI (n := 0) (by decide) (by decide)
  refine C_tok rfl hs (C_rep rfl hs (C_dro rfl hs ⟨x0, ?_⟩))
  rw [s1, s2, s4, cl0, c0]
  intro x8 hx8
  refine ⟨by rw [hx8]; exact vp_in_nI (by omega) (by decide), ?_⟩
  intro h10 e10
  rw [hx8, nI_clamp (by omega)] at e10
  refine ⟨x0, x0, ?_⟩
  intro h13 e13
  have o13 : ∀ a, a ≠ 101 → a ≠ 102 → h13 a = h a := fun a h1 h2 => by rw [e13, xup_row h2, e10, xup_row h1]
  have g101 : ∀ j, j ≠ n → h13 101 j = h 101 j := fun j hj => by rw [e13, xup_row (show (101 : Nat) ≠ 102 by decide), e10, xup_ne (Or.inr hj)]
  have g101n : h13 101 n = nI (ln + 1) := by rw [e13, xup_row (show (101 : Nat) ≠ 102 by decide), e10, xup_same]
  have d0 : h13 102 0 = nI (n + 1) := by rw [e13, xup_same, e10, xup_row (show (102 : Nat) ≠ 101 by decide), c0, nI_1]
  have dn : ∀ j, j ≠ 0 → h13 102 j = h 102 j := fun j hj => by rw [e13, xup_ne (Or.inr hj), e10, xup_row (show (102 : Nat) ≠ 101 by decide)]
  clear e13 e10
  have ib3 : IB t b k f n N cf kp tk r fr d h13 := IB_fr ib (fun a ha => o13 a (by omega) (by omega)) (fun w hw => g101 w (by omega))
  have nm3 : NM n N r d h13 := NM_fr nm (o13 7 (by decide) (by decide))
  refine C_msg hs hfa hsv htx hln (by rw [ib3.2.2.1.1]; exact nI_lt (show n < 400 by omega) (by decide)) ?_
  have mr := msg_I (p1 := nI fa) (p2 := nI sv) (p3 := nI tx) ib3 nm3 hn hs
  rw [g101n] at mr
  generalize cMsg (10 + s) (nI s) (nI fa) (nI sv) (nI tx) (nI (ln + 1)) h13 = z at mr ⊢
  obtain ⟨N', tk', r', fr', d', ib', nm', z7, oz, cs⟩ := mr
  obtain ⟨zz, g⟩ := z
  dsimp only at ib' nm' z7 oz cs ⊢
  have dz : ∀ j, g 102 j = h13 102 j := fun j => by rw [oz 102 (by decide) (by decide) (by decide) (by decide) (by decide) (by omega) (by decide)]
  have fin : K 1 g := hK g ⟨t, b, k, f, n + 1, N', cf, kp, tk', r', fr', d', ht, ib', nm', ⟨by rw [dz]; exact d0, by rw [dz, dn 1 (by decide)]; exact c1, by rw [dz, dn 2 (by decide)]; exact c2, by rw [dz, dn 3 (by decide)]; exact c3, by rw [dz, dn 4 (by decide)]; exact c4, by rw [dz, dn 5 (by decide)]; exact c5⟩, fun q hq => by rw [dz, dn (6 + q) (by omega)]; exact c6 q hq⟩
  have e62 : g 6 2 = nI (n + 1) := ib'.2.2.1.1
  obtain ⟨⟨u0, u1, u2, u3, u4⟩, u5, u6⟩ := ib'.2.1 s hs
  have hb50 : b ≤ 50 := ib'.1.2.2.2.1
  have nmb := NM_N nm' (by omega)
  have hr1 := sm_1 (r := r') hs
  have hd1 := sm_1 (r := d') hs
  have ge4 : g 102 (4 : Int32).toNatClampNeg = nI f := by rw [cl4, dz, dn 4 (by decide)]; exact c4
  -- what is left once the first checks are through
  have p109 : w_L_comes_109 (nI s) (nI fa) (nI sv) (nI tx) (nI (ln + 1)) K (nI (tk s)) (nI (r s)) (nI (d s)) x8 zz 1 g := by
    rcases cs with ⟨za, zb, zf, zr, zt, zd⟩ | ⟨za, zb, zr, zt0, zt, zd⟩ | ⟨za, zr, zt0, zt, zd, zl⟩
    · refine BT za (T1 ⟨vp_in_nI (n := 4) (by decide) (by decide), ?_⟩)
      rw [ge4]
      refine BF (nI_nle (by omega) (by have := ib'.1.2.2.2.2.2.2.1; omega)) (C_rep rfl hs ?_)
      rw [u2, zr]
      refine BT (nI_1 _).symm (C_tok rfl hs ?_)
      rw [u1, zt]
      refine BT rfl (C_dro rfl hs ?_)
      rw [u4, zd]
      exact BT rfl fin
    · refine BF (by rw [za]; decide) (T1 (C_rep rfl hs ?_))
      rw [u2, zr]
      refine BT rfl (BT za (T1 ?_))
      rw [zt0]
      refine BT rfl (C_tok rfl hs ?_)
      rw [u1, zt]
      refine BT rfl (C_dro rfl hs ?_)
      rw [u4, zd]
      exact BT (nI_1 _).symm fin
    · have zn : ¬ zz = 0 ∧ ¬ zz = 1 := by
        rcases za with ⟨y, -⟩ | ⟨y, -⟩
        · rw [y]; exact ⟨by decide, by decide⟩
        · rw [y]; exact ⟨by decide, by decide⟩
      refine BF zn.1 (T1 (C_rep rfl hs ?_))
      rw [u2, zr]
      refine BT rfl (BF zn.2 ?_)
      have loop : ∀ dd i, i + dd = 4 → w_L_comes_230 (nI s) (nI fa) (nI sv) (nI tx) (nI (ln + 1)) K (dd + 1) (nI (tk s)) x8 1 (nI i) g := by
        intro dd
        induction dd with
        | zero =>
          intro i hi
          have h4 : i = 4 := by omega
          subst h4
          rw [w_L_comes_230_s]
          refine BT (nI_le (Nat.le_refl 4) (by decide)) (T1 (BF (nI_nle zt0 (by omega)) (C_tok rfl hs ?_)))
          rw [u1, zt]
          refine BT (by
            have := nI_pred (tk s - 1)
            rwa [show tk s - 1 + 1 = tk s by omega, eq_comm] at this) (C_dro rfl hs ?_)
          rw [u4, zd]
          exact BT rfl fin
        | succ dd ih =>
          intro i hi
          have hi4 : i < 4 := by omega
          have p276 : w_L_comes_276 (nI s) (nI fa) (nI sv) (nI tx) (nI (ln + 1)) K (w_L_comes_230 (nI s) (nI fa) (nI sv) (nI tx) (nI (ln + 1)) K (dd + 1)) (nI (tk s)) x8 (nI i) g := by
            rintro x rfl
            rw [nI_1]
            exact ih (i + 1) (by omega)
          rw [w_L_comes_230_s]
          refine BF (nI_ge hi4 (by decide)) (T1 (C_trg hx8 e62 (by omega) (Nat.lt_succ_self n) ?_))
          by_cases hb : bt (g 8 n) i = true
          · refine BF (fun y => ?_) ?_
            · have := (bit_z (g 8 n) (show i < 32 by omega)).mp y
              rw [this] at hb; cases hb
            · obtain ⟨le, ls, l1, l2, l3, l3', l4⟩ := zl i hi4 hb
              obtain ⟨fe, fog, fst, fw', ⟨f1, f2, f3, f4⟩, f5, f6, ⟨f7, f8, f9, f10⟩, -⟩ := ib'.2.2.2.2.1 i hi4
              have em : endC (30 + i) 0 g - g (30 + i + 20) 0 = nI (le + 1 - ls) := by
                show g (30 + i) 2 - g (30 + i + 20) 0 = _
                rw [l1, l2]; exact pk_sub (by omega)
              refine C_lns (j := 0) rfl rfl hi4 (Nat.zero_le _) (show fog ≤ 5 by omega) f3 ?_
              rw [em]
              have ex : nI (le + 1 - ls) - 1 = nI (le - ls) := by
                have := nI_pred (le - ls)
                rwa [show le - ls + 1 = le + 1 - ls by omega] at this
              refine C_lin (j := 0) (i := le - ls) (s := ls) (m := le + 1 - ls) rfl rfl ex hi4 (Nat.zero_le _) (show fog ≤ 5 by omega) f3 em (by omega) (by omega) l2 (by omega) ?_
              rw [show ls + (le - ls) = le by omega, l4]
              exact BT hx8.symm p276
          · refine BT ((bit_z (g 8 n) (show i < 32 by omega)).mpr ?_) p276
            cases y : bt (g 8 n) i
            · rfl
            · exact absurd y hb
      exact ⟨5, loop 4 0 rfl⟩
  refine C_mes (BT (by rw [e62, hx8, nI_1]) (C_fat hx8 e62 (by omega) (Nat.lt_succ_self n) ?_))
  refine BT z7 ?_
  have p87 : ∀ x : Int32, (x = if g 8 n = 0 then 0 else 1) → w_L_comes_87 (nI s) (nI fa) (nI sv) (nI tx) (nI (ln + 1)) K (nI (tk s)) (nI (r s)) (nI (d s)) x8 zz x g := by
    intro x hx
    refine C_trg hx8 e62 (by omega) (Nat.lt_succ_self n) ⟨fun y => BT ?_ p109, fun y => BT ?_ p109⟩
    · rw [hx, if_pos y]
    · rw [hx, if_neg y]
  by_cases h3 : zz = 3
  · refine BT h3 (p87 1 ?_)
    rcases cs with ⟨za, zb, -⟩ | ⟨za, zb, -⟩ | ⟨⟨za, zb⟩ | ⟨za, zb⟩, -⟩
    · rw [za] at h3; exact absurd h3 (by decide)
    · rw [za] at h3; exact absurd h3 (by decide)
    · rw [za] at h3; exact absurd h3 (by decide)
    · rw [if_neg zb]
  · refine BF h3 (p87 0 ?_)
    rcases cs with ⟨za, zb, -⟩ | ⟨za, zb, -⟩ | ⟨⟨za, zb⟩ | ⟨za, zb⟩, -⟩
    · rw [if_pos zb]
    · rw [if_pos zb]
    · rw [if_pos zb]
    · exact absurd za h3
