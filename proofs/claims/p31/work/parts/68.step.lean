/-! THE LAW'S STEPS: rules, rate, folding, files -/
theorem IB_r {t b k f n N s : Nat} {cf : Int32} {kp tk r fr d : Nat → Nat} {h h' : xH} (q : IB t b k f n N cf kp tk r fr d h) (hs : s < 6) (ao : ∀ a, a ≠ 20 + s → h' a = h a) (e : ∃ t : Nat, t ≤ 4 ∧ h' (20 + s) 4 = nI t) : IB t b k f n N cf kp tk r fr d h' := by
  obtain ⟨p, si, li, ri, ff, wi⟩ := q
  refine ⟨?_, fun i hi => ?_, ?_, fun i hi => ?_, fun q hq => ?_, ?_⟩
  · unfold PI at p ⊢; rw [ao 0 (by omega)]; exact p
  · rw [ao (10 + i) (by omega)]; exact si i hi
  · unfold LI at li ⊢; rw [ao 6 (by omega), ao 7 (by omega), ao 8 (by omega)]; exact li
  · by_cases z : i = s
    · subst z; exact e
    · rw [ao (20 + i) (by omega)]; exact ri i hi
  · have e8 : TH h' q = TH h q := by unfold TH; rw [ao 8 (by omega)]
    rw [e8, ao (30 + q) (by omega), ao (30 + q + 10) (by omega), ao (30 + q + 20) (by omega), ao 101 (by omega)]
    exact ff q hq
  · rw [ao 4 (by omega), ao 5 (by omega), ao 8 (by omega)]; exact wi
theorem IB_p {t b k f n N k' f' : Nat} {cf : Int32} {kp tk r fr d : Nat → Nat} {h h' : xH} (q : IB t b k f n N cf kp tk r fr d h) (ao : ∀ a, a ≠ 0 → a ≠ 102 → h' a = h a) (e : PI t b k' f' n h') : IB t b k' f' n N cf kp tk r fr d h' := by
  obtain ⟨p, si, li, ri, ff, wi⟩ := q
  refine ⟨e, fun i hi => ?_, ?_, fun i hi => ?_, fun q hq => ?_, ?_⟩
  · rw [ao (10 + i) (by omega) (by omega)]; exact si i hi
  · unfold LI at li ⊢; rw [ao 6 (by omega) (by omega), ao 7 (by omega) (by omega), ao 8 (by omega) (by omega)]; exact li
  · rw [ao (20 + i) (by omega) (by omega)]; exact ri i hi
  · have e8 : TH h' q = TH h q := by unfold TH; rw [ao 8 (by omega) (by omega)]
    rw [e8, ao (30 + q) (by omega) (by omega), ao (30 + q + 10) (by omega) (by omega), ao (30 + q + 20) (by omega) (by omega), ao 101 (by omega) (by omega)]
    exact ff q hq
  · rw [ao 4 (by omega) (by omega), ao 5 (by omega) (by omega), ao 8 (by omega) (by omega)]; exact wi
theorem num_ge {r : Nat → Int32} {s : Nat} : ∀ n, ∃ c : Nat, c ≤ n ∧ numS r n = nI c ∧ (s < n → ¬ r s = 0 → 1 ≤ c) := by
  intro n
  induction n with
  | zero => exact ⟨0, Nat.le_refl 0, rfl, fun q => absurd q (by omega)⟩
  | succ n ih =>
    obtain ⟨c, hc, e, h⟩ := ih
    by_cases z : r n = 0
    · refine ⟨c, by omega, ?_, fun h1 h2 => ?_⟩
      · simp only [numS]; rw [if_pos z]; exact e
      · by_cases y : s = n
        · rw [y] at h2; exact absurd z h2
        · exact h (by omega) h2
    · refine ⟨c + 1, by omega, ?_, fun _ _ => by omega⟩
      simp only [numS]; rw [if_neg z, e, nI_1]
theorem C_in {v lo hi : Int32} {h : xH} {K : Int32 → xH → Prop} (h1 : ¬ v < lo) (h2 : ¬ hi < v) (hK : K 1 h) : w_X5_isWithin v lo hi h K := C_isWithin (fun _ _ => hK) (fun z => absurd z (fun y => by rcases y with y | y; exact h1 y; exact h2 y))
theorem L_setRule {T s fs sv se tg : Nat} {p0 p1 p2 p3 p4 : Int32} {h : xH} {K : Int32 → xH → Prop} (e0 : p0 = nI s) (e1 : p1 = nI fs) (e2 : p2 = nI sv) (e3 : p3 = pq se) (e4 : p4 = nI tg) (hs : s < 6) (hfs : fs ≤ 255) (hsv : sv ≤ 7) (hse : se ≤ 6) (htg : tg ≤ 4) (q : IV T h) (hK : ∀ v h', ¬ v < 1 → IV T h' → K v h') : w_X5_setRule p0 p1 p2 p3 p4 h K := by
  subst e0 e1 e2 e3 e4
  obtain ⟨t, b, k, f, n, N, cf, kp, tk, r, fr, d, ht, ib, nm, cv⟩ := q
  refine C_rul rfl hs ⟨⟨by omega, by omega⟩, C_in (pq_ge se (by omega)) ?_ (T1 (C_in (nI_pos (by omega)) (nI_nlt (b := fs) (a := 255) (by omega) (by omega)) (T1 (C_in (nI_pos (by omega)) (nI_nlt (b := sv) (a := 7) (by omega) (by omega)) (T1 (C_in (nI_pos (by omega)) (nI_nlt (b := tg) (a := 4) (by omega) (by omega)) (T1 ?_)))))))⟩
  · cases se with
    | zero => decide
    | succ se => exact nI_nlt (b := se) (a := 5) (by omega) (by omega)
  · intro h1 e1 h2 e2 h3 e3 h4 e4 h5 e5
    have ao : ∀ a, a ≠ 20 + s → h5 a = h a := fun a ha => by rw [e5, xup_row ha, e4, xup_row ha, e3, xup_row ha, e2, xup_row ha, e1, xup_row ha]
    have r0 : h5 (20 + s) 0 = 1 := by rw [e5, xup_ne (Or.inr (by decide)), e4, xup_ne (Or.inr (by decide)), e3, xup_ne (Or.inr (by decide)), e2, xup_ne (Or.inr (by decide)), e1, xup_same]
    have r4 : h5 (20 + s) 4 = nI tg := by rw [e5, xup_same]
    refine C_num ?_
    obtain ⟨c, c6, ec, hc⟩ := num_ge (r := fun i => h5 (20 + i) 0) (s := s) 6
    rw [ec]
    refine hK _ _ (nI_nlt (a := c) (b := 1) ?_ (by omega)) ?_
    · exact hc hs (by rw [r0]; decide)
    · refine ⟨t, b, k, f, n, N, cf, kp, tk, r, fr, d, ht, IB_r ib hs ao ⟨tg, htg, r4⟩, NM_fr nm (ao 7 (by omega)), ?_⟩
      unfold CV at cv ⊢
      rw [ao 102 (by omega)]; exact cv
theorem cap_I {p : Nat} {h : xH} {tk : Nat → Nat} (hp : p ≤ 50) (htk : ∀ i, i < 6 → h (10 + i) 1 = nI (tk i) ∧ tk i ≤ 50) : ∀ m, m ≤ 6 → (∀ a, (a < 10 ∨ 16 ≤ a) → cCap (nI p) m h a = h a) ∧ ∀ i, i < 6 → cCap (nI p) m h (10 + i) 1 = nI (if i < m ∧ p < tk i then p else tk i) ∧ ∀ j, j ≠ 1 → cCap (nI p) m h (10 + i) j = h (10 + i) j := by
  intro m
  induction m with
  | zero =>
    intro _
    refine ⟨fun _ _ => rfl, fun i hi => ⟨?_, fun _ _ => rfl⟩⟩
    rw [if_neg (by omega)]
    exact (htk i hi).1
  | succ m ih =>
    intro hm
    obtain ⟨g1, g2⟩ := ih (by omega)
    obtain ⟨m1, m2⟩ := g2 m (by omega)
    rw [if_neg (show ¬ (m < m ∧ p < tk m) by omega)] at m1
    have hm50 := (htk m (by omega)).2
    rw [show cCap (nI p) (m + 1) h = (if cCap (nI p) m h (10 + m) 1 ≤ nI p then cCap (nI p) m h else xup (cCap (nI p) m h) (10 + m) 1 (nI p)) from rfl]
    by_cases c : tk m ≤ p
    · rw [if_pos (by rw [m1]; exact nI_le c (by omega))]
      refine ⟨g1, fun i hi => ⟨?_, (g2 i hi).2⟩⟩
      rw [(g2 i hi).1]
      by_cases z : i = m
      · subst z; rw [if_neg (by omega), if_neg (by omega)]
      · by_cases y : i < m ∧ p < tk i
        · rw [if_pos y, if_pos (by omega)]
        · rw [if_neg y, if_neg (by omega)]
    · rw [if_neg (by rw [m1]; exact nI_ge (by omega) (by omega))]
      refine ⟨fun a ha => by rw [xup_row (by omega)]; exact g1 a ha, fun i hi => ?_⟩
      by_cases z : i = m
      · subst z
        refine ⟨by rw [xup_same, if_pos (by omega)], fun j hj => by rw [xup_ne (Or.inr hj)]; exact m2 j hj⟩
      · rw [xup_row (show 10 + i ≠ 10 + m by omega)]
        refine ⟨?_, (g2 i hi).2⟩
        rw [(g2 i hi).1]
        by_cases y : i < m ∧ p < tk i
        · rw [if_pos y, if_pos (by omega)]
        · rw [if_neg y, if_neg (by omega)]
/-- the rate: the law's cells are already set -/
theorem L_setRate {T t b k f n N b' k' : Nat} {cf p0 p1 : Int32} {kp tk r fr d : Nat → Nat} {h : xH} {K : Int32 → xH → Prop} (e0 : p0 = nI b') (e1 : p1 = nI k') (hb : 1 ≤ b' ∧ b' ≤ 50) (hk : 1 ≤ k' ∧ k' ≤ 60) (ht : t ≤ T) (ib : IB t b k f n N cf kp tk r fr d h) (nm : NM n N r d h) (cv : CV t b' k' f n cf kp h) (hK : ∀ h', IV T h' → K (nI b) h') : w_X5_setRate p0 p1 h K := by
  subst e0 e1
  obtain ⟨⟨⟨p1, p2, p3, p4⟩, p5, p6, p7, p8, p9, p10, p11⟩, si, li, ri, ff, wi⟩ := ib
  refine C_in (nI_nlt (a := b') (b := 1) (by omega) (by omega)) (nI_nlt (b := b') (a := 50) (by omega) (by omega)) (T1 (C_in (nI_nlt (a := k') (b := 1) (by omega) (by omega)) (nI_nlt (b := k') (a := 60) (by omega) (by omega)) (T1 ?_)))
  intro x7 e7 h8 e8 h9 e9
  rw [p2] at e7
  have o9 : ∀ a, a ≠ 0 → h9 a = h a := fun a ha => by rw [e9, xup_row ha, e8, xup_row ha]
  refine C_cap ?_
  obtain ⟨g1, g2⟩ := cap_I (p := b') (h := h9) (tk := tk) (by omega) (fun i hi => by rw [o9 (10 + i) (by omega)]; exact ⟨(si i hi).1.2.1, by have := (si i hi).2.1; omega⟩) 6 (Nat.le_refl 6)
  rw [e7]
  have o : ∀ a, a ≠ 0 → (a < 10 ∨ 16 ≤ a) → cCap (nI b') 6 h9 a = h a := fun a ha h2 => by rw [g1 a h2]; exact o9 a ha
  have z0 : cCap (nI b') 6 h9 0 = h9 0 := g1 0 (by decide)
  generalize cCap (nI b') 6 h9 = z at g2 o z0 ⊢
  refine hK z ⟨t, b', k', f, n, N, cf, kp, fun i => if i < 6 ∧ b' < tk i then b' else tk i, r, fr, d, ht, ⟨⟨⟨?_, ?_, ?_, ?_⟩, p5, by omega, by omega, by omega, by omega, p10, p11⟩, fun i hi => ?_, ?_, fun i hi => ?_, fun q hq => ?_, ?_⟩, NM_fr nm (o 7 (by decide) (by decide)), ?_⟩
  · rw [z0, e9, xup_ne (Or.inr (by decide)), e8, xup_ne (Or.inr (by decide))]; exact p1
  · rw [z0, e9, xup_ne (Or.inr (by decide)), e8, xup_same]
  · rw [z0, e9, xup_same]
  · rw [z0, e9, xup_ne (Or.inr (by decide)), e8, xup_ne (Or.inr (by decide))]; exact p4
  · obtain ⟨⟨s0, s1, s2, s3, s4⟩, s5, s6⟩ := si i hi
    obtain ⟨y1, y2⟩ := g2 i hi
    refine ⟨⟨?_, y1, ?_, ?_, ?_⟩, ?_, s6⟩
    · rw [y2 0 (by decide), o9 (10 + i) (by omega)]; exact s0
    · rw [y2 2 (by decide), o9 (10 + i) (by omega)]; exact s2
    · rw [y2 3 (by decide), o9 (10 + i) (by omega)]; exact s3
    · rw [y2 4 (by decide), o9 (10 + i) (by omega)]; exact s4
    · dsimp only; split <;> omega
  · unfold LI at li ⊢; rw [o 6 (by decide) (by decide), o 7 (by decide) (by decide), o 8 (by decide) (by decide)]; exact li
  · rw [o (20 + i) (by omega) (by omega)]; exact ri i hi
  · have e8 : TH z q = TH h q := by unfold TH; rw [o 8 (by decide) (by decide)]
    rw [e8, o (30 + q) (by omega) (by omega), o (30 + q + 10) (by omega) (by omega), o (30 + q + 20) (by omega) (by omega), o 101 (by decide) (by decide)]
    exact ff q hq
  · rw [o 4 (by decide) (by decide), o 5 (by decide) (by decide), o 8 (by decide) (by decide)]; exact wi
  · unfold CV at cv ⊢; rw [o 102 (by decide) (by decide)]; exact cv
theorem L_setFold {T t b k f n N f' : Nat} {cf p0 : Int32} {kp tk r fr d : Nat → Nat} {h : xH} {K : Int32 → xH → Prop} (e0 : p0 = nI f') (hf : f' ≤ 100) (ht : t ≤ T) (ib : IB t b k f n N cf kp tk r fr d h) (nm : NM n N r d h) (cv : CV t b k f' n cf kp h) (hK : ∀ h', IV T h' → K (nI f) h') : w_X5_setFold p0 h K := by
  subst e0
  obtain ⟨⟨p1, p2, p3, p4⟩, p5, p6, p7, p8, p9, p10, p11⟩ := id ib.1
  refine C_in (nI_pos (by omega)) (nI_nlt (b := f') (a := 100) (by omega) (by omega)) (T1 ?_)
  intro x4 e4 h5 e5
  rw [e4, p4]
  have o : ∀ a, a ≠ 0 → h5 a = h a := fun a ha => by rw [e5, xup_row ha]
  refine hK h5 ⟨t, b, k, f', n, N, cf, kp, tk, r, fr, d, ht, IB_p ib (fun a h0 _ => o a h0) ⟨⟨?_, ?_, ?_, ?_⟩, p5, p6, p7, p8, p9, hf, p11⟩, NM_fr nm (o 7 (by decide)), ?_⟩
  · rw [e5, xup_ne (Or.inr (by decide))]; exact p1
  · rw [e5, xup_ne (Or.inr (by decide))]; exact p2
  · rw [e5, xup_ne (Or.inr (by decide))]; exact p3
  · rw [e5, xup_same]
  · unfold CV at cv ⊢; rw [o 102 (by decide)]; exact cv
theorem L_setFile {T t b k f n N q sz ag kk : Nat} {cf p0 p1 p2 p3 : Int32} {kp tk r fr d : Nat → Nat} {h : xH} {K : Int32 → xH → Prop} (e0 : p0 = nI q) (e1 : p1 = nI sz) (e2 : p2 = nI ag) (e3 : p3 = nI kk) (hq : q < 4) (hsz : 200 ≤ sz ∧ sz ≤ 5000) (hag : ag ≤ 1000) (hkk : kk ≤ 5) (ht : t ≤ T) (ib : IB t b k f n N cf kp tk r fr d h) (nm : NM n N r d h) (cv : CV t b k f n cf (upN kp q kk) h) (hK : ∀ h', IV T h' → h' 102 = h 102 → (∃ g : Nat, g ≤ kk ∧ h' (30 + q) 8 = nI g) → K (h' (30 + q) 7) h') : w_X5_setFile p0 p1 p2 p3 h K := by
  subst e0 e1 e2 e3
  obtain ⟨p, si, li, ri, ff, wi⟩ := ib
  refine C_fil rfl hq ⟨⟨by omega, by omega⟩, C_in (nI_nlt (a := sz) (b := 200) (by omega) (by omega)) (nI_nlt (b := sz) (a := 5000) (by omega) (by omega)) (T1 (C_in (nI_pos (by omega)) (nI_nlt (b := ag) (a := 1000) (by omega) (by omega)) (T1 (C_in (nI_pos (by omega)) (nI_nlt (b := kk) (a := 5) (by omega) (by omega)) (T1 ?_)))))⟩
  intro h1 e1 h2 e2 h3 e3
  have o3 : ∀ a, a ≠ 30 + q → h3 a = h a := fun a ha => by rw [e3, xup_row ha, e2, xup_row ha, e1, xup_row ha]
  have r3 : ∀ j, j ≠ 3 → j ≠ 4 → j ≠ 5 → h3 (30 + q) j = h (30 + q) j := fun j a3 a4 a5 => by rw [e3, xup_ne (Or.inr a5), e2, xup_ne (Or.inr a4), e1, xup_ne (Or.inr a3)]
  have r5 : h3 (30 + q) 5 = nI kk := by rw [e3, xup_same]
  obtain ⟨e, og, st, w, ⟨a, bb, c, dd⟩, q1, q2, ⟨z1, z2, z3, z4⟩, q3, q4, q5, q6⟩ := id (ff q hq)
  have fin : ∀ (z : xH) (g : Nat), g ≤ og → g ≤ kk → (∀ a, a ≠ 30 + q → z a = h a) → (∀ j, j = 2 ∨ j = 7 → z (30 + q) j = h (30 + q) j) → z (30 + q) 5 = nI kk → z (30 + q) 8 = nI g → K (z (30 + q) 7) z := by
    intro z g hg hgk o s27 s5 s8
    refine hK z ⟨t, b, k, f, n, N, cf, upN kp q kk, tk, r, fr, d, ht, ⟨?_, fun i hi => ?_, ?_, fun i hi => ?_, fun q' hq' => ?_, ?_⟩, NM_fr nm (o 7 (by omega)), ?_⟩ (o 102 (by omega)) ⟨g, hgk, s8⟩
    · unfold PI at p ⊢; rw [o 0 (by omega)]; exact p
    · rw [o (10 + i) (by omega)]; exact si i hi
    · unfold LI at li ⊢; rw [o 6 (by omega), o 7 (by omega), o 8 (by omega)]; exact li
    · rw [o (20 + i) (by omega)]; exact ri i hi
    · have e8 : TH z q' = TH h q' := by unfold TH; rw [o 8 (by omega)]
      rw [e8, o 101 (by omega)]
      by_cases y : q' = q
      · subst y
        rw [upN_s, o (30 + q' + 10) (by omega), o (30 + q' + 20) (by omega)]
        exact ⟨e, g, st, w, ⟨by rw [s27 2 (Or.inl rfl)]; exact a, s5, s8, by rw [s27 7 (Or.inr rfl)]; exact dd⟩, q1, q2, ⟨z1, hgk, hkk, z4⟩, q3, fun j hj => q4 j (by omega), q5, q6⟩
      · rw [upN_n y, o (30 + q') (by omega), o (30 + q' + 10) (by omega), o (30 + q' + 20) (by omega)]
        exact ff q' hq'
    · rw [o 4 (by omega), o 5 (by omega), o 8 (by omega)]; exact wi
    · unfold CV at cv ⊢; rw [o 102 (by omega)]; exact cv
  have e8 : h3 (30 + q) 8 = nI og := by rw [r3 8 (by decide) (by decide) (by decide)]; exact c
  refine ⟨fun cc => ?_, fun cc => ?_⟩
  · rw [e8] at cc
    refine fin h3 og (Nat.le_refl _) ((nI_leI (by omega) (by omega)).mp cc) o3 (fun j hj => r3 j (by omega) (by omega) (by omega)) r5 e8
  · intro h5 e5
    rw [e8] at cc
    have hlt : kk ≤ og := by
      rcases Nat.lt_or_ge og kk with y | y
      · exact absurd (nI_le (by omega) (by omega)) cc
      · exact y
    exact fin h5 kk hlt (Nat.le_refl _) (fun a ha => by rw [e5, xup_row ha]; exact o3 a ha) (fun j hj => by rw [e5, xup_ne (Or.inr (by omega))]; exact r3 j (by omega) (by omega) (by omega)) (by rw [e5, xup_ne (Or.inr (by decide))]; exact r5) (by rw [e5, xup_same])
