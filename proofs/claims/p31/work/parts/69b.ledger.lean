/-! THE LAW LOOKS AT THE LEDGER -/
theorem shr4 {x : Int32} (hx : ∀ i, 5 ≤ i → i < 32 → bt x i = false) : x >>> ((4 : Int32) &&& 31) = nI (if bt x 4 = true then 1 else 0) := by
  show x >>> (nI 4 &&& 31) = _
  apply b_ext
  intro i hi
  rw [b_sshr 4 (by decide) x hi]
  by_cases h0 : i = 0
  · subst h0
    rw [if_pos (by decide)]
    cases h : bt x 4
    · rw [if_neg (by decide), nI_0, b_0]
    · rw [if_pos rfl, show nI 1 = 1 from rfl, b_1 0 (by decide)]; rfl
  · have hl : (if 4 + i < 32 then bt x (4 + i) else bt x 31) = false := by
      split
      · exact hx _ (by omega) (by omega)
      · exact hx 31 (by decide) (by decide)
    rw [hl]
    cases h : bt x 4
    · rw [if_neg (by decide), nI_0, b_0]
    · rw [if_pos rfl, show nI 1 = 1 from rfl, b_1 i hi, decide_eq_false h0]
theorem CV_fr {t b k f n : Nat} {cf : Int32} {kp : Nat → Nat} {h h' : xH} (cv : CV t b k f n cf kp h) (e : h' 102 = h 102) : CV t b k f n cf kp h' := by
  unfold CV at cv ⊢
  rw [e]; exact cv
theorem C_ack {h : xH} {K : Int32 → xH → Prop} (hK : K (h 4 3) h) : w_X5_acknowledged h K := hK
theorem C_los {h : xH} {K : Int32 → xH → Prop} (hK : K (h 4 4) h) : w_X5_lost h K := hK
theorem fw_le {R : Nat → Int32} : ∀ n, fw R n ≤ n := by
  intro n
  induction n with
  | zero => exact Nat.le_refl 0
  | succ n ih => simp only [fw]; split <;> omega
theorem cn_s {p : Int32} {R : Nat → Int32} {n : Nat} : cn p R (n + 1) = cn p R n + (if R n = p then 1 else 0) := rfl
theorem L_isLedger {T : Nat} {h : xH} {K : Int32 → xH → Prop} (i : IV T h) (hz : ∀ p, p < 4 → h 103 p = 0) (hK : ∀ h', IV T h' → K 1 h') : w_L_isLedger h K := by
  obtain ⟨t, b, k, f, n, N, cf, kp, tk, r, fr, d, ht, ib, nm, cv⟩ := i
  have hn : n ≤ 60 := by obtain ⟨⟨-, -, -, -, -, -, -, z⟩, -⟩ := ib; exact z
  obtain ⟨hN, hsr, hsd⟩ := NM_N nm hn
  have e62 : h 6 2 = nI n := ib.2.2.1.1
  have hl := ib.2.2.1.2
  have c0 : h 102 0 = nI n := cv.1.1
  have c2 : h 102 2 = nI b := cv.1.2.2.1
  have x0 : vp_in 0 14 := vp_in_nI (n := 0) (by decide) (by decide)
  have x2 : vp_in 2 14 := vp_in_nI (n := 2) (by decide) (by decide)
  refine C_mes ⟨x0, ?_⟩
  rw [cl0, c0]
  refine BT e62 ?_
  -- the last loop
  have p112 : ∀ g : xH, (∀ a, a ≠ 103 → g a = h a) → (∀ p, p < 4 → g 103 p = nI (cn (nI p) (h 7) n)) → ∀ dd s, s + dd = 6 → w_L_isLedger_112 K (dd + 1) (nI (fw (h 8) n)) 1 (nI (sm d s)) (nI (sm r s)) (nI s) g := by
    intro g o g3 dd
    have fin : K 1 g := hK g ⟨t, b, k, f, n, N, cf, kp, tk, r, fr, d, ht, IB_fr ib (fun a ha => o a (by omega)) (fun w _ => by rw [o 101 (by decide)]), NM_fr nm (o 7 (by decide)), CV_fr cv (o 102 (by decide))⟩
    induction dd with
    | zero =>
      intro s hs
      have h6 : s = 6 := by omega
      subst h6
      rw [w_L_isLedger_112_s]
      obtain ⟨e, q, a, l, ⟨w1, w2, w3, w4, w5⟩, ⟨y1, y2, y3, y4, y5, y6⟩, z1, z2, z3⟩ := ib.2.2.2.2.2
      have n0 := cn_le (p := nI 0) (R := h 7) n
      have n1 := cn_le (p := nI 1) (R := h 7) n
      have m0 : sm r 6 ≤ cn (nI 0) (h 7) n := nm.1
      have m1 : sm d 6 ≤ cn (nI 1) (h 7) n := nm.2.1
      have g4 : g 4 = h 4 := o 4 (by decide)
      have eq1 : g 4 1 - g 4 2 = nI (e - q) := by rw [g4, w1, w2]; exact pk_sub y2
      have eq2 : g 4 2 - g 4 3 = nI (q - a) := by rw [g4, w2, w3]; exact pk_sub y1
      refine BT (nI_le (Nat.le_refl 6) (by decide)) (T1 ⟨vp_in_nI (n := 1) (by decide) (by decide), ?_⟩)
      rw [cl1, g3 1 (by decide)]
      refine BF (nI_nlt m1 (by omega)) ⟨vp_in_nI (n := 0) (by decide) (by decide), ?_⟩
      rw [cl0, g3 0 (by decide)]
      refine BF (nI_nlt m0 (by omega)) (C_que (C_inf ?_))
      rw [eq1, eq2, nI_add]
      refine BF (nI_nlt (b := e - q + (q - a)) (a := 30) (by omega) (by omega)) (C_inf ?_)
      rw [eq2]
      refine BF (nI_nlt (b := q - a) (a := 5) (by omega) (by omega)) (C_que (C_inf (C_ack (C_los ?_))))
      rw [eq1, eq2, nI_add, g4, w3, w4, nI_add, nI_add]
      exact BF (nI_nlt (by omega) (by omega)) fin
    | succ dd ih =>
      intro s hs
      have hs6 : s < 6 := by omega
      rw [w_L_isLedger_112_s]
      obtain ⟨⟨s0, s1, s2, s3, s4⟩, s5, s6⟩ := ib.2.1 s hs6
      have gs : g (10 + s) = h (10 + s) := o _ (by omega)
      refine BF (nI_ge hs6 (by decide)) (C_dro rfl hs6 ?_)
      intro x47 e47
      refine C_rep rfl hs6 ?_
      intro x50 e50
      rw [gs, s4, nI_add] at e47
      rw [gs, s2, nI_add] at e50
      have hb : b ≤ 50 := ib.1.2.2.2.1
      refine T1 (C_tok rfl hs6 ?_)
      rw [gs, s1]
      refine BF (nI_pos (by omega)) (C_tok rfl hs6 ⟨x2, ?_⟩)
      rw [cl2, o 102 (by decide), c2, gs, s1]
      refine BF (nI_nlt s5 (by omega)) ?_
      intro x59 e59
      rw [e59, nI_1, e47, e50]
      exact ih (s + 1) (by omega)
  -- the counts
  have p66 : ∀ g : xH, (∀ a, a ≠ 103 → g a = h a) → (∀ p, p < 4 → g 103 p = nI (cn (nI p) (h 7) n)) → ∀ dd p, p + dd = 4 → w_L_isLedger_66 K (dd + 1) (nI (fw (h 8) n)) 1 (nI p) g := by
    intro g o g3 dd
    induction dd with
    | zero =>
      intro p hp
      have h4 : p = 4 := by omega
      subst h4
      rw [w_L_isLedger_66_s]
      exact BT (nI_le (Nat.le_refl 4) (by decide)) ⟨_, p112 g o g3 6 0 rfl⟩
    | succ dd ih =>
      intro p hp
      have hp4 : p < 4 := by omega
      rw [w_L_isLedger_66_s]
      refine BF (nI_ge hp4 (by decide)) (T1 (C_cnt rfl hp4 (by rw [o 6 (by decide)]; exact e62) (by omega) ⟨vp_in_nI hp4 (by decide), ?_⟩))
      rw [nI_clamp (by omega), g3 p hp4, o 7 (by decide)]
      refine BT rfl ?_
      intro x60 e60
      rw [e60, nI_1]
      exact ih (p + 1) (by omega)
  -- the messages
  have p26 : ∀ dd m, m + dd = n → ∀ g : xH, (∀ a, a ≠ 103 → g a = h a) → (∀ p, p < 4 → g 103 p = nI (cn (nI p) (h 7) m)) → w_L_isLedger_26 K (dd + 1) (nI (fw (h 8) m)) 1 (nI m) g := by
    intro dd
    induction dd with
    | zero =>
      intro m hm g o g3
      have h4 : m = n := by omega
      subst h4
      rw [w_L_isLedger_26_s]
      refine ⟨x0, ?_⟩
      rw [cl0, o 102 (by decide), c0]
      exact BT (nI_le (Nat.le_refl _) (by omega)) ⟨_, p66 g o g3 4 0 rfl⟩
    | succ dd ih =>
      intro m hm g o g3
      rw [w_L_isLedger_26_s]
      refine ⟨x0, ?_⟩
      rw [cl0, o 102 (by decide), c0]
      have hmn : m < n := by omega
      have g62 : g 6 2 = nI n := by rw [o 6 (by decide)]; exact e62
      refine BF (nI_ge hmn (by omega)) (C_fat rfl g62 (by omega) hmn ?_)
      obtain ⟨l1, l2⟩ := hl m hmn
      rw [o 7 (by decide)]
      obtain ⟨u, hu, eu⟩ : ∃ u : Nat, u < 4 ∧ h 7 m = nI u := by
        rcases l1 with z | z | z | z
        · exact ⟨0, by decide, z⟩
        · exact ⟨1, by decide, z⟩
        · exact ⟨2, by decide, z⟩
        · exact ⟨3, by decide, z⟩
      rw [eu, nI_clamp (by omega)]
      refine ⟨vp_in_nI hu (by decide), vp_in_nI hu (by decide), ?_⟩
      intro h11 e11
      have o11 : ∀ a, a ≠ 103 → h11 a = h a := fun a ha => by rw [e11, xup_row ha]; exact o a ha
      refine C_trg rfl (by rw [o11 6 (by decide)]; exact e62) (by omega) hmn ?_
      rw [o11 8 (by decide), shr4 l2]
      intro x14 e14 x15 e15
      rw [nI_add] at e14
      rw [e15, nI_1, e14]
      refine ih (m + 1) (by omega) h11 o11 (fun p hp => ?_)
      rw [cn_s, eu, e11]
      by_cases z : p = u
      · subst z
        rw [xup_same, g3 p hp, if_pos rfl, nI_1]
      · rw [xup_ne (Or.inr z), g3 p hp, if_neg (fun y => z ((nI_eq (by omega) (by omega)).mp y).symm), Nat.add_zero]
  exact ⟨_, p26 n 0 (by omega) h (fun _ _ => rfl) (fun p hp => hz p hp)⟩
