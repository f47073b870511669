/-! THE LAW'S STEP, whole -/
theorem L_rotate {T q : Nat} {p0 p1 p2 : Int32} {x16 : Int32} {h : xH} {K : Int32 → xH → Prop} (hx : x16 = nI q) (hq : q < 4) (i : IV T h) (hK : ∀ h', IV T h' → K 1 h') :
    w_X5_lines x16 ((-1) : Int32) h (fun r17 h18 => ((r17 = 0 → w_L_step_434 p0 p1 p2 K   h18) ∧ (¬ (r17 = 0) → w_X5_rotate x16 h18 (fun r20 h21 => w_X5_generations x16 h21 (fun r22 h23 => ((r20 = r22 → w_X5_size x16 h23 (fun r25 h26 => ((r25 = 0 → w_X5_lines x16 ((-1) : Int32) h26 (fun r28 h29 => ((r28 = 0 → (vp_in ((6 : Int32) + x16) 14 ∧ (((h29 102 ((6 : Int32) + x16).toNatClampNeg) = 0 → w_L_step_434 p0 p1 p2 K   h29) ∧ (¬ ((h29 102 ((6 : Int32) + x16).toNatClampNeg) = 0) → w_X5_lines x16 (0 : Int32) h29 (fun r33 h34 => ((r33 = r17 → w_L_step_434 p0 p1 p2 K   h34) ∧ (¬ (r33 = r17) → K 0 h34))))))) ∧ (¬ (r28 = 0) → K 0 h29)))) ∧ (¬ (r25 = 0) → K 0 h26)))) ∧ (¬ (r20 = r22) → K 0 h23))))))) := by
  subst hx
  obtain ⟨t, b, k, f, n, N, cf, kp, tk, r, fr, d, ht, ib, nm, cv⟩ := i
  have hn : n ≤ 60 := by obtain ⟨⟨-, -, -, -, -, -, -, z⟩, -⟩ := ib; exact z
  obtain ⟨hN, -, -⟩ := NM_N nm hn
  obtain ⟨e, og, st, w, ⟨f1, f2, f3, f4⟩, f5, f6, ⟨f7, f8, f9, f10⟩, f11, f12, -⟩ := ib.2.2.2.2.1 q hq
  refine C_lns (j := 0) rfl rfl hq (Nat.zero_le _) (show og ≤ 5 by omega) f3 ?_
  have e0 : endC (30 + q) 0 h - h (30 + q + 20) 0 = nI (e - st 0) := by
    show h (30 + q) 2 - h (30 + q + 20) 0 = _
    rw [f1, f5 0 (by decide)]; exact pk_sub f7
  rw [e0]
  by_cases c : e - st 0 = 0
  · exact BT (by rw [c]; rfl) (hK h ⟨t, b, k, f, n, N, cf, kp, tk, r, fr, d, ht, ib, nm, cv⟩)
  · refine BF (nI_ne0 (by omega) (by omega)) ?_
    have hne : ¬ h (30 + q) 2 = h (30 + q + 20) 0 := by
      rw [f1, f5 0 (by decide)]
      intro z
      have := (nI_eq (by omega) (by omega)).mp z
      omega
    refine C_fil rfl hq ⟨⟨by omega, by omega⟩, C_isEmpty ?_⟩
    rw [if_neg hne]
    refine T0 (C_turn ?_)
    have ib' := rot_I ib hq (by omega) hne
    have o : ∀ a, (a < 30 ∨ 54 ≤ a) → cRot (30 + q) h a = h a := fun a ha => cRot_o (by omega) (by omega)
    have r8 : cRot (30 + q) h (30 + q) 8 = nI (if kp q ≤ og then og else og + 1) := by
      rw [cRot_F, if_neg (by decide), if_neg (by decide), if_pos rfl, f2, f3]
      by_cases z : kp q ≤ og
      · rw [if_pos z, if_pos (nI_le z (by omega))]
      · rw [if_neg z, if_neg (nI_ge (by omega) (by omega)), nI_1]
    have r2 : cRot (30 + q) h (30 + q) 2 = nI e := by rw [cRot_F, if_neg (by decide), if_neg (by decide), if_neg (by decide)]; exact f1
    have r7 : cRot (30 + q) h (30 + q) 7 = 0 := by rw [cRot_F, if_pos rfl]
    have s0 : cRot (30 + q) h (30 + q + 20) 0 = nI e := by rw [cRot_S, if_pos rfl]; exact f1
    have s1 : cRot (30 + q) h (30 + q + 20) 1 = nI (st 0) := by rw [cRot_S, if_neg (by decide), if_pos (by decide)]; exact f5 0 (by decide)
    have cv' : CV t b k f n cf kp (cRot (30 + q) h) := by unfold CV at cv ⊢; rw [o 102 (by decide)]; exact cv
    have fin : K 1 (cRot (30 + q) h) := hK _ ⟨t, b, k, f, n, N, cf, kp, tk, r, fr, d, ht, ib', NM_fr nm (o 7 (by decide)), cv'⟩
    have hog5 : (if kp q ≤ og then og else og + 1) ≤ 5 := by split <;> omega
    generalize cRot (30 + q) h = g at r8 r2 r7 s0 s1 cv' fin ⊢
    refine C_gen rfl hq (BT rfl (C_siz rfl hq (BT r7 ?_)))
    refine C_lns (j := 0) rfl rfl hq (Nat.zero_le _) hog5 r8 ?_
    have e1 : endC (30 + q) 0 g - g (30 + q + 20) 0 = nI 0 := by
      show g (30 + q) 2 - g (30 + q + 20) 0 = _
      rw [r2, s0, pk_sub (Nat.le_refl e), Nat.sub_self]
    refine BT (by rw [e1]; rfl) ?_
    have e6 : (6 : Int32) + nI q = nI (6 + q) := nI_add 6 q
    rw [e6, nI_clamp (by omega), cv'.2 q hq]
    refine ⟨vp_in_nI (by omega) (by decide), ?_⟩
    by_cases c2 : kp q = 0
    · exact BT (by rw [c2]; rfl) fin
    · refine BF (nI_ne0 (by omega) (by omega)) ?_
      refine C_lns (j := 1) rfl rfl hq (by split <;> omega) hog5 r8 ?_
      refine BT ?_ fin
      show g (30 + q + 20) 0 - g (30 + q + 20) 1 = _
      rw [s0, s1]; exact pk_sub f7
theorem CV_up {t b k f n : Nat} {cf : Int32} {kp : Nat → Nat} {h : xH} (cv : CV t b k f n cf kp h) {a : Nat} (ha : a ≠ 102) {j : Nat} {x : Int32} : CV t b k f n cf kp (xup h a j x) := by
  unfold CV at cv ⊢
  rw [xup_row (Ne.symm ha)]; exact cv
theorem L_step {T w a b9 : Nat} {h : xH} {K : Int32 → xH → Prop} (hw : w < 2 ^ 31) (ha : a < 2 ^ 31) (hb : b9 < 2 ^ 31) (q : IV T h) (hT : T + 100 ≤ 20000) (hK : ∀ h', IV (T + 100) h' → K 1 h') : w_L_step (nI w) (nI a) (nI b9) h K := by
  have hK' : ∀ h', IV T h' → K 1 h' := fun h' i => hK h' (IV_up i (by omega))
  have dv : ∀ {x m : Nat}, x < 2 ^ 31 → 0 < m → m < 2 ^ 31 → nI x / nI m = nI (x / m) := fun hx h0 hm => pk_div hx h0 hm
  have rm : ∀ {x m : Nat}, x < 2 ^ 31 → 0 < m → m < 2 ^ 31 → nI x - nI x / nI m * nI m = nI (x % m) := fun hx h0 hm => pk_rem hx h0 hm
  have dl : ∀ (x m : Nat), x / m ≤ x := fun x m => Nat.div_le_self x m
  have a6 : nI a - nI a / 6 * 6 = nI (a % 6) := rm (m := 6) ha (by decide) (by decide)
  have ad6 : nI a / 6 = nI (a / 6) := dv (m := 6) ha (by decide) (by decide)
  have a2 : nI a - nI a / 2 * 2 = nI (a % 2) := rm (m := 2) ha (by decide) (by decide)
  have a3 : nI a - nI a / 3 * 3 = nI (a % 3) := rm (m := 3) ha (by decide) (by decide)
  have a4 : nI a - nI a / 4 * 4 = nI (a % 4) := rm (m := 4) ha (by decide) (by decide)
  have ad4 : nI a / 4 = nI (a / 4) := dv (m := 4) ha (by decide) (by decide)
  have ad12 : nI a / 12 = nI (a / 12) := dv (m := 12) ha (by decide) (by decide)
  have b2 : nI b9 - nI b9 / 2 * 2 = nI (b9 % 2) := rm (m := 2) hb (by decide) (by decide)
  have b3 : nI b9 - nI b9 / 3 * 3 = nI (b9 % 3) := rm (m := 3) hb (by decide) (by decide)
  have bd3 : nI b9 / 3 = nI (b9 / 3) := dv (m := 3) hb (by decide) (by decide)
  have b4 : nI b9 - nI b9 / 4 * 4 = nI (b9 % 4) := rm (m := 4) hb (by decide) (by decide)
  have b6 : nI b9 - nI b9 / 6 * 6 = nI (b9 % 6) := rm (m := 6) hb (by decide) (by decide)
  have bd6 : nI b9 / 6 = nI (b9 / 6) := dv (m := 6) hb (by decide) (by decide)
  have b8 : nI b9 - nI b9 / 8 * 8 = nI (b9 % 8) := rm (m := 8) hb (by decide) (by decide)
  have bd8 : nI b9 / 8 = nI (b9 / 8) := dv (m := 8) hb (by decide) (by decide)
  have bd56 : nI b9 / 56 = nI (b9 / 56) := dv (m := 56) hb (by decide) (by decide)
  have b101 : nI b9 - nI b9 / 101 * 101 = nI (b9 % 101) := rm (m := 101) hb (by decide) (by decide)
  have q60 : a / 6 ≤ a := dl a 6
  have q61 : a / 4 ≤ a := dl a 4
  have q62 : a / 12 ≤ a := dl a 12
  have q63 : b9 / 3 ≤ b9 := dl b9 3
  have q64 : b9 / 6 ≤ b9 := dl b9 6
  have q65 : b9 / 8 ≤ b9 := dl b9 8
  have q66 : b9 / 56 ≤ b9 := dl b9 56
  intro x1 hx1
  clear hx1
  refine ⟨fun _ => ?_, fun _ => ?_, fun _ => ?_, fun _ => ?_, fun _ => ?_, fun _ => ?_, fun _ => ?_, fun _ => ?_⟩
  · -- a rule
    have e1 : nI a / 6 - nI a / 6 / 256 * 256 = nI (a / 6 % 256) := by rw [ad6]; exact rm (m := 256) (by omega) (by decide) (by decide)
    have e3 : nI b9 / 8 - nI b9 / 8 / 7 * 7 - 1 = pq (b9 / 8 % 7) := by
      rw [bd8, show nI (b9 / 8) - nI (b9 / 8) / 7 * 7 = nI (b9 / 8 % 7) from rm (m := 7) (by omega) (by decide) (by decide)]
      exact pq_m _
    have e4 : nI b9 / 56 - nI b9 / 56 / 5 * 5 = nI (b9 / 56 % 5) := by rw [bd56]; exact rm (m := 5) (by omega) (by decide) (by decide)
    exact L_setRule a6 e1 b8 e3 e4 (Nat.mod_lt _ (by decide)) (by have := Nat.mod_lt (a / 6) (show 0 < 256 by decide); omega) (by have := Nat.mod_lt b9 (show 0 < 8 by decide); omega) (by have := Nat.mod_lt (b9 / 8) (show 0 < 7 by decide); omega) (by have := Nat.mod_lt (b9 / 56) (show 0 < 5 by decide); omega) q (fun v h' hv i => BF hv (hK' h' i))
  · -- the rate
    obtain ⟨t, b, k, f, n, N, cf, kp, tk, r, fr, d, ht, ib, nm, ⟨⟨c0, c1, c2, c3, c4, c5⟩, c6⟩⟩ := q
    refine ⟨vp_in_nI (n := 2) (by decide) (by decide), ?_⟩
    intro x6 e6
    rw [cl2, c2] at e6
    subst e6
    have p144 : ∀ (b' m : Nat) (h72 : xH), 1 ≤ b' → b' ≤ 50 → 1 ≤ m → m ≤ 60 → (h72 = xup h 102 2 (nI b')) → w_L_step_144 (nI w) (nI a) (nI b9) K (nI b) 3 1 (nI b9) (nI m) h72 := by
      intro b' m h72 hb1 hb2 hm1 hm2 e72
      refine ⟨nI_ne0 (by omega) (by omega), vp_in_nI (n := 3) (by decide) (by decide), ?_⟩
      intro h76 e76
      have em : (1 : Int32) + (nI b9 - nI b9 / nI m * nI m) = nI (1 + b9 % m) := by rw [rm hb (by omega) (by omega)]; exact nI_add 1 _
      rw [cl3, em] at e76
      have hmod := Nat.mod_lt b9 (show 0 < m by omega)
      have o : ∀ j, j ≠ 102 → h76 j = h j := fun j hj => by rw [e76, xup_row hj, e72, xup_row hj]
      have d2 : h76 102 2 = nI b' := by rw [e76, xup_ne (Or.inr (by decide)), e72, xup_same]
      have d3 : h76 102 3 = nI (1 + b9 % m) := by rw [e76, xup_same]
      have dn : ∀ j, j ≠ 2 → j ≠ 3 → h76 102 j = h 102 j := fun j h2 h3 => by rw [e76, xup_ne (Or.inr h3), e72, xup_ne (Or.inr h2)]
      refine ⟨vp_in_nI (n := 2) (by decide) (by decide), vp_in_nI (n := 3) (by decide) (by decide), ?_⟩
      rw [cl2, d2, cl3, d3]
      refine L_setRate (T := T) rfl rfl ⟨hb1, hb2⟩ ⟨by omega, by omega⟩ ht (IB_fr ib (fun j hj => o j (by omega)) (fun w _ => by rw [o 101 (by decide)])) (NM_fr nm (o 7 (by decide))) ⟨⟨by rw [dn 0 (by decide) (by decide)]; exact c0, by rw [dn 1 (by decide) (by decide)]; exact c1, d2, d3, by rw [dn 4 (by decide) (by decide)]; exact c4, by rw [dn 5 (by decide) (by decide)]; exact c5⟩, fun q hq => by rw [dn (6 + q) (by omega) (by omega)]; exact c6 q hq⟩ (fun h' i => BT rfl (hK' h' i))
    have p122 : ∀ m : Nat, 1 ≤ m → m ≤ 50 → w_L_step_122 (nI w) (nI a) (nI b9) K (nI b) 2 1 (nI a) (nI m) h := by
      intro m hm1 hm2
      refine ⟨nI_ne0 (by omega) (by omega), vp_in_nI (n := 2) (by decide) (by decide), ?_⟩
      intro h72 e72
      have em : (1 : Int32) + (nI a - nI a / nI m * nI m) = nI (1 + a % m) := by rw [rm ha (by omega) (by omega)]; exact nI_add 1 _
      rw [cl2, em] at e72
      have hmod := Nat.mod_lt a (show 0 < m by omega)
      exact ⟨fun _ => p144 (1 + a % m) 60 h72 (by omega) (by omega) (by decide) (by decide) e72, fun _ => p144 (1 + a % m) 7 h72 (by omega) (by omega) (by decide) (by decide) e72⟩
    exact ⟨fun _ => p122 6 (by decide) (by decide), fun _ => p122 50 (by decide) (by decide)⟩
  · -- folding
    obtain ⟨t, b, k, f, n, N, cf, kp, tk, r, fr, d, ht, ib, nm, ⟨⟨c0, c1, c2, c3, c4, c5⟩, c6⟩⟩ := q
    refine ⟨vp_in_nI (n := 4) (by decide) (by decide), ?_⟩
    intro x9 e9
    rw [cl4, c4] at e9
    subst e9
    have p191 : ∀ f' : Nat, f' ≤ 100 → w_L_step_191 (nI w) (nI a) (nI b9) K (nI f) 4 (nI f') h := by
      intro f' hf'
      refine ⟨vp_in_nI (n := 4) (by decide) (by decide), ?_⟩
      intro h65 e65
      rw [cl4] at e65
      have o : ∀ j, j ≠ 102 → h65 j = h j := fun j hj => by rw [e65, xup_row hj]
      have d4 : h65 102 4 = nI f' := by rw [e65, xup_same]
      have dn : ∀ j, j ≠ 4 → h65 102 j = h 102 j := fun j h2 => by rw [e65, xup_ne (Or.inr h2)]
      refine ⟨vp_in_nI (n := 4) (by decide) (by decide), ?_⟩
      rw [cl4, d4]
      exact L_setFold (T := T) rfl hf' ht (IB_fr ib (fun j hj => o j (by omega)) (fun w _ => by rw [o 101 (by decide)])) (NM_fr nm (o 7 (by decide))) ⟨⟨by rw [dn 0 (by decide)]; exact c0, by rw [dn 1 (by decide)]; exact c1, by rw [dn 2 (by decide)]; exact c2, by rw [dn 3 (by decide)]; exact c3, d4, by rw [dn 5 (by decide)]; exact c5⟩, fun q hq => by rw [dn (6 + q) (by omega)]; exact c6 q hq⟩ (fun h' i => BT rfl (hK' h' i))
    refine ⟨fun _ => p191 0 (by decide), fun _ => ?_⟩
    rw [b101]
    exact p191 _ (by have := Nat.mod_lt b9 (show 0 < 101 by decide); omega)
  · -- a file
    obtain ⟨t, b, k, f, n, N, cf, kp, tk, r, fr, d, ht, ib, nm, ⟨⟨c0, c1, c2, c3, c4, c5⟩, c6⟩⟩ := q
    intro x11 e11
    rw [a4] at e11
    have hq : a % 4 < 4 := Nat.mod_lt _ (by decide)
    generalize a % 4 = q at e11 hq
    subst e11
    have e6q : (6 : Int32) + nI q = nI (6 + q) := nI_add 6 q
    have e10q : (10 : Int32) + nI q = nI (10 + q) := nI_add 10 q
    rw [e6q, e10q, nI_clamp (show 6 + q < 2 ^ 31 by omega), b6]
    refine ⟨vp_in_nI (by omega) (by decide), ?_⟩
    intro h13 e13
    have hk6 := Nat.mod_lt b9 (show 0 < 6 by decide)
    have p294 : ∀ (sz ag : Nat) (h52 : xH), 200 ≤ sz → sz ≤ 5000 → ag ≤ 1000 → h52 = xup h13 102 (10 + q) (nI sz) → w_L_step_294 (nI w) (nI a) (nI b9) K (nI q) 0 (nI q) (nI sz) (nI ag) h52 := by
      intro sz ag h52 hs1 hs2 hg e52
      have o : ∀ j, j ≠ 102 → h52 j = h j := fun j hj => by rw [e52, xup_row hj, e13, xup_row hj]
      have dq : h52 102 (6 + q) = nI (b9 % 6) := by rw [e52, xup_ne (Or.inr (by omega)), e13, xup_same]
      have dn : ∀ j, j ≠ 6 + q → j ≠ 10 + q → h52 102 j = h 102 j := fun j h2 h3 => by rw [e52, xup_ne (Or.inr h3), e13, xup_ne (Or.inr h2)]
      unfold w_L_step_294
      rw [b6]
      refine L_setFile (T := T) rfl rfl rfl rfl hq ⟨hs1, hs2⟩ hg (show b9 % 6 ≤ 5 by omega) ht (IB_fr ib (fun j hj => o j (by omega)) (fun w _ => by rw [o 101 (by decide)])) (NM_fr nm (o 7 (by decide))) ⟨⟨by rw [dn 0 (by omega) (by omega)]; exact c0, by rw [dn 1 (by omega) (by omega)]; exact c1, by rw [dn 2 (by omega) (by omega)]; exact c2, by rw [dn 3 (by omega) (by omega)]; exact c3, by rw [dn 4 (by omega) (by omega)]; exact c4, by rw [dn 5 (by omega) (by omega)]; exact c5⟩, fun q' hq' => ?_⟩ (fun h' i e102 hg' => ?_)
      · by_cases z : q' = q
        · subst z; rw [upN_s]; exact dq
        · rw [upN_n z, dn (6 + q') (by omega) (by omega)]; exact c6 q' hq'
      · obtain ⟨g, hg1, hg2⟩ := hg'
        refine C_siz rfl hq (BT rfl (C_gen rfl hq ?_))
        rw [e6q, nI_clamp (by omega), e102, dq, hg2]
        exact ⟨vp_in_nI (by omega) (by decide), BF (nI_nlt hg1 (by omega)) (hK' h' i)⟩
    have p258 : ∀ m : Nat, 1 ≤ m → m ≤ 4801 → w_L_step_258 (nI w) (nI a) (nI b9) K (nI q) (nI (10 + q)) 200 (nI b9 / 6) (nI m) h13 := by
      intro m hm1 hm2
      refine ⟨nI_ne0 (by omega) (by omega), vp_in_nI (by omega) (by decide), ?_⟩
      intro h52 e52
      have em : (200 : Int32) + (nI b9 / 6 - nI b9 / 6 / nI m * nI m) = nI (200 + b9 / 6 % m) := by
        rw [bd6, rm (by omega) (by omega) (by omega)]; exact nI_add 200 _
      rw [em, nI_clamp (by omega)] at e52
      have hmod := Nat.mod_lt (b9 / 6) (show 0 < m by omega)
      have d10 : h52 102 (10 + q) = nI (200 + b9 / 6 % m) := by rw [e52, xup_same]
      rw [e10q, nI_clamp (by omega), d10]
      refine ⟨vp_in_nI (by omega) (by decide), fun _ => ?_, fun _ => p294 _ 0 h52 (by omega) (by omega) (by decide) e52⟩
      have ea : (1 : Int32) + (nI a / 12 - nI a / 12 / 60 * 60) = nI (1 + a / 12 % 60) := by
        rw [ad12, show nI (a / 12) - nI (a / 12) / 60 * 60 = nI (a / 12 % 60) from rm (m := 60) (by omega) (by decide) (by decide)]; exact nI_add 1 _
      rw [ea]
      have := Nat.mod_lt (a / 12) (show 0 < 60 by decide)
      exact p294 _ (1 + a / 12 % 60) h52 (by omega) (by omega) (by omega) e52
    exact ⟨fun _ => p258 4801 (by decide) (by decide), fun _ => p258 200 (by decide) (by decide)⟩
  · -- seconds
    have p352 : ∀ m : Nat, 1 ≤ m → m ≤ 100 → w_L_step_352 (nI w) (nI a) (nI b9) K 0 1 (nI b9) (nI m) h := by
      intro m hm1 hm2
      have hmod := Nat.mod_lt b9 (show 0 < m by omega)
      have em : (1 : Int32) + (nI b9 - nI b9 / nI m * nI m) = nI (1 + b9 % m) := by rw [rm hb (by omega) (by omega)]; exact nI_add 1 _
      exact ⟨nI_ne0 (by omega) (by omega), L_passes em (by omega) (by omega) q hT (fun h' i => ⟨nb1, hK h' i⟩)⟩
    exact ⟨fun _ => p352 100 (by decide) (by decide), fun _ => p352 9 (by decide) (by decide)⟩
  · -- a turn of a file
    intro x16 e16
    rw [a4] at e16
    exact L_rotate e16 (Nat.mod_lt _ (by decide)) q hK'
  · -- the forwarder
    exact L_forwards rfl hb q (fun h' i => ⟨nb1, hK' h' i⟩)
  · -- a message
    refine ⟨vp_in_nI (n := 0) (by decide) (by decide), ?_⟩
    rw [cl0]
    by_cases c : h 102 0 = 60
    · exact BT c (hK' h q)
    · refine BF c ?_
      have p501 : ∀ m : Nat, 1 ≤ m → m ≤ 200 → w_L_step_501 (nI w) (nI a) (nI b9) K 0 (nI a - nI a / 6 * 6) (nI b9 - nI b9 / 3 * 3) (nI a / 6 - nI a / 6 / 3 * 3) (nI b9 / 3 - nI b9 / 3 / 2 * 2) 1 (nI b9 / 6) (nI m) h := by
        intro m hm1 hm2
        have hmod := Nat.mod_lt (b9 / 6) (show 0 < m by omega)
        have e2 : nI a / 6 - nI a / 6 / 3 * 3 = nI (a / 6 % 3) := by rw [ad6]; exact rm (m := 3) (by omega) (by decide) (by decide)
        have e3 : nI b9 / 3 - nI b9 / 3 / 2 * 2 = nI (b9 / 3 % 2) := by rw [bd3]; exact rm (m := 2) (by omega) (by decide) (by decide)
        have e4 : (1 : Int32) + (nI b9 / 6 - nI b9 / 6 / nI m * nI m) = nI (b9 / 6 % m + 1) := by
          rw [bd6, rm (by omega) (by omega) (by omega), Nat.add_comm]; exact nI_add 1 _
        refine ⟨nI_ne0 (by omega) (by omega), L_comes a6 b3 e2 e3 e4 (Nat.mod_lt _ (by decide)) (by have := Nat.mod_lt b9 (show 0 < 3 by decide); omega) (by have := Nat.mod_lt (a / 6) (show 0 < 3 by decide); omega) (by have := Nat.mod_lt (b9 / 3) (show 0 < 2 by decide); omega) (by omega) q c (fun h' i => BF (by decide) (hK' h' i))⟩
      exact ⟨fun _ => p501 200 (by decide) (by decide), fun _ => p501 2 (by decide) (by decide)⟩
