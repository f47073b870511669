/-! THE INVARIANT, III: a message, whole -/
theorem upN_id {f : Nat → Nat} {s x : Nat} (h : f s = x) : upN f s x = f := by
  funext i
  unfold upN
  split
  · rename_i z; rw [z, h]
  · rfl
theorem tellA_I {t b k f n N s : Nat} {cf : Int32} {kp tk r fr d : Nat → Nat} {h : xH} (q : IB t b k f n N cf kp tk r fr d h) (nm : NM n N r d h) (hs : s < 6) :
    ∃ N', IB t b k f n N' cf kp tk (upN r s 0) fr d (cTell (10 + s) h) ∧ NM n N' (upN r s 0) d (cTell (10 + s) h) ∧ (∀ a, a ≠ 4 → a ≠ 5 → a ≠ 10 + s → (a < 30 ∨ 54 ≤ a) → cTell (10 + s) h a = h a) ∧ ∃ e, e ≤ 6 ∧ xsum (cTell (10 + s) h) = xsum h + nI e := by
  have hn : n ≤ 60 := by obtain ⟨⟨-, -, -, -, -, -, -, z⟩, -⟩ := q; exact z
  obtain ⟨b1, b2, b3⟩ := NM_N nm hn
  obtain ⟨m1, m2, m3⟩ := nm
  have h6 := sm_6 (r := r) (s := s) (x := 0) hs
  by_cases z : r s = 0
  · have e : cTell (10 + s) h = h := by
      obtain ⟨⟨s0, s1, s2, s3, s4⟩, -⟩ := q.2.1 s hs
      unfold cTell
      rw [if_pos (by rw [s2, z]; decide)]
    rw [e, upN_id z]
    exact ⟨N, q, ⟨m1, m2, m3⟩, fun _ _ _ _ _ => rfl, 0, by decide, by rw [nI_0, Int32.add_zero]⟩
  · obtain ⟨g1, g2, g3⟩ := tell_I q hs (by omega) (by omega) (by omega)
    refine ⟨N + 1, g1, ⟨?_, ?_, by omega⟩, g2, g3⟩
    · rw [g2 7 (by decide) (by decide) (by omega) (by decide)]; omega
    · rw [g2 7 (by decide) (by decide) (by omega) (by decide)]; exact m2
theorem tellB_I {t b k f n N s : Nat} {cf : Int32} {kp tk r fr d : Nat → Nat} {h : xH} (q : IB t b k f n N cf kp tk r fr d h) (hs : s < 6) (h1 : d s ≤ 1000) (hN : N ≤ 399) :
    ∃ N', N' ≤ N + 1 ∧ IB t b k f n N' cf kp tk r fr (upN d s 0) (cTellD (10 + s) h) ∧ (∀ a, a ≠ 4 → a ≠ 5 → a ≠ 10 + s → (a < 30 ∨ 54 ≤ a) → cTellD (10 + s) h a = h a) := by
  by_cases z : d s = 0
  · have e : cTellD (10 + s) h = h := by
      obtain ⟨⟨s0, s1, s2, s3, s4⟩, -⟩ := q.2.1 s hs
      unfold cTellD
      rw [if_pos (by rw [s4, z]; decide)]
    rw [e, upN_id z]
    exact ⟨N, by omega, q, fun _ _ _ _ _ => rfl⟩
  · obtain ⟨g1, g2⟩ := tellD_I q hs (by omega) h1 hN
    exact ⟨N + 1, Nat.le_refl _, g1, g2⟩
theorem fold_I {t b k f n N s : Nat} {cf : Int32} {kp tk r fr d : Nat → Nat} {h : xH} (q : IB t b k f n N cf kp tk r fr d h) (hs : s < 6) :
    ∃ fr', IB t b k f n N cf kp tk (upN r s (r s + 1)) fr' d (cFold (10 + s) (h 0 5) h) ∧ (∀ a, a ≠ 10 + s → cFold (10 + s) (h 0 5) h a = h a) := by
  obtain ⟨⟨s0, s1, s2, s3, s4⟩, s5, s6⟩ := q.2.1 s hs
  have ht : h 0 5 = nI t := q.1.1.1
  have ao : ∀ a, a ≠ 10 + s → cFold (10 + s) (h 0 5) h a = h a := by
    intro a ha
    unfold cFold
    rw [xup_row ha]
    split
    · exact xup_row ha
    · rfl
  refine ⟨if h (10 + s) 2 = 0 then upN fr s t else fr, IB_s q hs ao ⟨⟨?_, ?_, ?_, ?_, ?_⟩, s5, ?_⟩ (fun i hi => ⟨rfl, upN_n hi, ?_, rfl⟩), ao⟩
  · unfold cFold
    rw [xup_ne (Or.inr (by decide))]
    split
    · rw [xup_ne (Or.inr (by decide))]; exact s0
    · exact s0
  · unfold cFold
    rw [xup_ne (Or.inr (by decide))]
    split
    · rw [xup_ne (Or.inr (by decide))]; exact s1
    · exact s1
  · unfold cFold
    rw [xup_same, s2, upN_s, nI_1]
  · unfold cFold
    rw [xup_ne (Or.inr (by decide))]
    split
    · rw [xup_same, upN_s]; exact ht
    · exact s3
  · unfold cFold
    rw [xup_ne (Or.inr (by decide))]
    split
    · rw [xup_ne (Or.inr (by decide))]; exact s4
    · exact s4
  · split
    · rw [upN_s]; exact Nat.le_refl _
    · exact s6
  · split
    · exact upN_n hi
    · rfl
theorem own_I {t b k f n N : Nat} {cf s' fa v : Int32} {kp tk r fr d : Nat → Nat} {g : xH} (q : IB t b k f n N cf kp tk r fr d g) (hn : n ≤ 59) (hN : N ≤ 399) :
    FF (n + 1) (N + 1) kp (fun q w => if w = n then bt (cGo s' fa v (nI n) (g 101 n) 6 (0, g)).1 q = true else TH (cGo s' fa v (nI n) (g 101 n) 6 (0, g)).2 q w) (cGo s' fa v (nI n) (g 101 n) 6 (0, g)).2 ∧ WI (N + 1) (fw ((cGo s' fa v (nI n) (g 101 n) 6 (0, g)).2 8) n + (if bt (cGo s' fa v (nI n) (g 101 n) 6 (0, g)).1 4 = true then 1 else 0)) cf ((cGo s' fa v (nI n) (g 101 n) 6 (0, g)).2 4) ((cGo s' fa v (nI n) (g 101 n) 6 (0, g)).2 5) ∧
    (∀ q, q < 4 → bt (cGo s' fa v (nI n) (g 101 n) 6 (0, g)).1 q = true → LL n ((cGo s' fa v (nI n) (g 101 n) 6 (0, g)).2 (30 + q)) ((cGo s' fa v (nI n) (g 101 n) 6 (0, g)).2 (30 + q + 10)) ((cGo s' fa v (nI n) (g 101 n) 6 (0, g)).2 (30 + q + 20))) ∧
    (∀ i, 5 ≤ i → i < 32 → bt (cGo s' fa v (nI n) (g 101 n) 6 (0, g)).1 i = false) ∧ (∀ a, a ≠ 4 → a ≠ 5 → (a < 30 ∨ 54 ≤ a) → (cGo s' fa v (nI n) (g 101 n) 6 (0, g)).2 a = g a) := by
  obtain ⟨p, si, li, ri, ff, wi⟩ := q
  have hlen : lenW (g 101) n = g 101 n := by
    unfold lenW
    rw [if_neg (by omega), if_neg (by omega)]
  have o : ∀ a, a ≠ 4 → a ≠ 5 → (a < 30 ∨ 54 ≤ a) → (cGo s' fa v (nI n) (g 101 n) 6 (0, g)).2 a = g a := fun a h4 h5 h3 => cGo_o h4 h5 h3 6
  obtain ⟨g1, g2, g3, -⟩ := go_gen (s := s') (f := fa) (v := v) (line := nI n) (len := g 101 n) ri (P := fun q F R S => FI n N (g 101) (TH g q) (kp q) F R S) (Q := fun q F R S => FI (n + 1) (N + 1) (g 101) (fun w => if w = n then True else TH g q w) (kp q) F R S ∧ LL n F R S) (PW := fun W R => WI N (fw (g 8) n) cf W R) (QW := fun W R => WI (N + 1) (fw (g 8) n + 1) cf W R)
    (fun t ht g' hg q => FI_add hN (Nat.le_succ n) (by omega) (fun w hw z => by rw [if_neg (by omega)]; exact z) (fun _ _ => rfl) (Or.inl ⟨Nat.le_refl n, by omega, by rw [if_pos rfl]; trivial⟩) hlen q) (fun g' q => WI_take (nI_pos (by omega)) hN q) ff wi 6 (Nat.le_refl 6)
  generalize (cGo s' fa v (nI n) (g 101 n) 6 (0, g)) = z at o g1 g2 g3 ⊢
  have e8 : ∀ q w, TH z.2 q w = TH g q w := fun q w => by unfold TH; rw [o 8 (by decide) (by decide) (by decide)]
  refine ⟨fun q hq => ?_, ?_, fun q hq hb => ?_, g3, o⟩
  · rw [o 101 (by decide) (by decide) (by decide)]
    have h1 := g1 q hq
    by_cases hb : bt z.1 q = true
    · rw [if_pos hb] at h1
      refine FI_m h1.1 (Nat.le_refl _) (Nat.le_refl _) (by omega) (fun w hw y => ?_) (fun _ _ => rfl)
      dsimp only
      by_cases x : w = n
      · rw [if_pos x]; exact hb
      · rw [if_neg x, e8]; rw [if_neg x] at y; exact y
    · rw [if_neg hb] at h1
      refine FI_m h1 (Nat.le_succ _) (Nat.le_succ _) (by omega) (fun w hw y => ?_) (fun _ _ => rfl)
      dsimp only
      rw [if_neg (by omega), e8]; exact y
  · rw [o 8 (by decide) (by decide) (by decide)]
    by_cases hb : bt z.1 4 = true
    · rw [if_pos hb] at g2 ⊢; exact g2
    · rw [if_neg hb] at g2 ⊢; exact WI_m g2 (Nat.le_succ _) (Nat.le_refl _)
  · have h1 := g1 q hq
    rw [if_pos hb] at h1
    exact h1.2
theorem cLast_o {k a : Nat} {x y z w : Int32} {h : xH} (ha : a ≠ k) : cLast k x y z w h a = h a := by
  unfold cLast
  rw [xup_row ha, xup_row ha, xup_row ha, xup_row ha]
theorem cLast_k {k j : Nat} {x y z w : Int32} {h : xH} (hj : j < 5) : cLast k x y z w h k j = h k j := by
  unfold cLast
  rw [xup_ne (Or.inr (by omega)), xup_ne (Or.inr (by omega)), xup_ne (Or.inr (by omega)), xup_ne (Or.inr (by omega))]
/-- what a message does -/
def MR (t b k f n s : Nat) (cf : Int32) (kp tk r d : Nat → Nat) (h : xH) (z : Int32 × xH) : Prop :=
  ∃ (N' : Nat) (tk' r' fr' d' : Nat → Nat), IB t b k f (n + 1) N' cf kp tk' r' fr' d' z.2 ∧ NM (n + 1) N' r' d' z.2 ∧ z.2 7 n = z.1 ∧ (∀ a, a ≠ 4 → a ≠ 5 → a ≠ 6 → a ≠ 7 → a ≠ 8 → a ≠ 10 + s → (a < 30 ∨ 54 ≤ a) → z.2 a = h a) ∧
    ((z.1 = 0 ∧ z.2 8 n = 0 ∧ f ≠ 0 ∧ r' s = r s + 1 ∧ tk' s = tk s ∧ d' s = d s) ∨
     (z.1 = 1 ∧ z.2 8 n = 0 ∧ r' s = 0 ∧ tk s = 0 ∧ tk' s = 0 ∧ d' s = d s + 1) ∨
     ((z.1 = 2 ∧ z.2 8 n = 0 ∨ z.1 = 3 ∧ ¬ z.2 8 n = 0) ∧ r' s = 0 ∧ 0 < tk s ∧ tk' s = tk s - 1 ∧ d' s = 0 ∧ ∀ q, q < 4 → bt (z.2 8 n) q = true → LL n (z.2 (30 + q)) (z.2 (30 + q + 10)) (z.2 (30 + q + 20))))
theorem FF_up {n N : Nat} {kp : Nat → Nat} {h : xH} (ff : FF n N kp (TH h) h) (hn : n ≤ 60) : FF (n + 1) N kp (fun q w => if w = n then bt 0 q = true else TH h q w) h := fun q hq =>
  FI_m (ff q hq) (Nat.le_succ _) (Nat.le_refl _) (by omega) (fun w hw y => by dsimp only; rw [if_neg (by omega)]; exact y) (fun _ _ => rfl)
theorem msg_I {t b k f n N s : Nat} {cf p1 p2 p3 : Int32} {kp tk r fr d : Nat → Nat} {h : xH} (q : IB t b k f n N cf kp tk r fr d h) (nm : NM n N r d h) (hn : n ≤ 59) (hs : s < 6) : MR t b k f n s cf kp tk r d h (cMsg (10 + s) (nI s) p1 p2 p3 (h 101 n) h) := by
  unfold cMsg
  by_cases c1 : ¬ h 0 8 = 0 ∧ (h (10 + s) 5 = p1 ∧ h (10 + s) 6 = p2 ∧ h (10 + s) 7 = p3 ∧ h (10 + s) 8 = h 101 n)
  · rw [if_pos c1]
    obtain ⟨fr', ⟨p, si, li, ri, ff, wi⟩, g2⟩ := fold_I q hs
    obtain ⟨w1, w2, w3, w4, w5⟩ := IB_enter (set := 0) (fate := 0) p hn si li ri (FF_up ff (by omega)) (by rw [b_0, if_neg (by decide)]; exact wi) (fun i _ _ => b_0 i) (Or.inl rfl)
    have e7 : cFold (10 + s) (h 0 5) h 7 = h 7 := g2 7 (by omega)
    have h6 := sm_6 (r := r) (s := s) (x := r s + 1) hs
    obtain ⟨m1, m2, m3⟩ := nm
    refine ⟨N, tk, upN r s (r s + 1), fr', d, w1, ⟨?_, ?_, by omega⟩, w2, fun a h4 h5 h6 h7 h8 hk h3 => (w5 a h6 h7 h8).trans (g2 a hk), Or.inl ⟨rfl, w3, fun z => c1.1 (by rw [q.1.1.2.2.2, z]; rfl), upN_s, rfl, rfl⟩⟩
    · rw [w4, e7, if_pos rfl]; omega
    · rw [w4, e7, if_neg (by decide)]; exact m2
  · rw [if_neg c1]
    obtain ⟨NA, qA, nmA, oA, -⟩ := tellA_I q nm hs
    obtain ⟨bA1, bA2, bA3⟩ := NM_N nmA (by omega)
    obtain ⟨m1, m2, m3⟩ := nmA
    generalize cTell (10 + s) h = hA at qA m1 m2 oA ⊢
    obtain ⟨⟨s0, s1, s2, s3, s4⟩, s5, s6⟩ := qA.2.1 s hs
    have ha101 : hA 101 = h 101 := oA 101 (by decide) (by decide) (by omega) (by decide)
    have hd1 := sm_1 (r := d) hs
    by_cases c2 : hA (10 + s) 1 = 0
    · rw [if_pos c2]
      have ht0 : tk s = 0 := by
        rw [s1] at c2
        exact (nI_eq (by have := qA.1.2.2.2.1; omega) (by decide)).mp (c2.trans nI_0.symm)
      have qB : IB t b k f n NA cf kp tk (upN r s 0) fr (upN d s (d s + 1)) (xup hA (10 + s) 4 (hA (10 + s) 4 + 1)) := by
        refine IB_s qA hs (fun a ha => xup_row ha) ⟨⟨?_, ?_, ?_, ?_, ?_⟩, s5, s6⟩ (fun i hi => ⟨rfl, rfl, rfl, upN_n hi⟩)
        · rw [xup_ne (Or.inr (by decide))]; exact s0
        · rw [xup_ne (Or.inr (by decide))]; exact s1
        · rw [xup_ne (Or.inr (by decide))]; exact s2
        · rw [xup_ne (Or.inr (by decide))]; exact s3
        · rw [xup_same, s4, upN_s, nI_1]
      obtain ⟨p, si, li, ri, ff, wi⟩ := qB
      obtain ⟨w1, w2, w3, w4, w5⟩ := IB_enter (set := 0) (fate := 1) p hn si li ri (FF_up ff (by omega)) (by rw [b_0, if_neg (by decide)]; exact wi) (fun i _ _ => b_0 i) (Or.inr (Or.inl rfl))
      have e7 : xup hA (10 + s) 4 (hA (10 + s) 4 + 1) 7 = hA 7 := xup_row (by omega)
      have h6 := sm_6 (r := d) (s := s) (x := d s + 1) hs
      refine ⟨NA, tk, upN r s 0, fr, upN d s (d s + 1), w1, ⟨?_, ?_, by omega⟩, w2, fun a h4 h5 h6 h7 h8 hk h3 => (w5 a h6 h7 h8).trans ((xup_row hk).trans (oA a h4 h5 hk h3)), Or.inr (Or.inl ⟨rfl, w3, upN_s, ht0, ht0, upN_s⟩)⟩
      · rw [w4, e7, if_neg (by decide)]; exact m1
      · rw [w4, e7, if_pos rfl]; omega
    · rw [if_neg c2]
      dsimp only
      have ht0 : 0 < tk s := by
        rcases Nat.eq_zero_or_pos (tk s) with z | z
        · exfalso; apply c2; rw [s1, z]; rfl
        · exact z
      have et : hA (10 + s) 1 - 1 = nI (tk s - 1) := by
        rw [s1]
        have := nI_pred (tk s - 1)
        rwa [show tk s - 1 + 1 = tk s by omega] at this
      have qB : IB t b k f n NA cf kp (upN tk s (tk s - 1)) (upN r s 0) fr d (xup hA (10 + s) 1 (hA (10 + s) 1 - 1)) := by
        refine IB_s qA hs (fun a ha => xup_row ha) ⟨⟨?_, ?_, ?_, ?_, ?_⟩, by rw [upN_s]; omega, s6⟩ (fun i hi => ⟨upN_n hi, rfl, rfl, rfl⟩)
        · rw [xup_ne (Or.inr (by decide))]; exact s0
        · rw [xup_same, upN_s]; exact et
        · rw [xup_ne (Or.inr (by decide))]; exact s2
        · rw [xup_ne (Or.inr (by decide))]; exact s3
        · rw [xup_ne (Or.inr (by decide))]; exact s4
      have oB : ∀ a, a ≠ 10 + s → xup hA (10 + s) 1 (hA (10 + s) 1 - 1) a = hA a := fun a ha => xup_row ha
      generalize xup hA (10 + s) 1 (hA (10 + s) 1 - 1) = hB at qB oB ⊢
      obtain ⟨NC, hNC, qC, oC⟩ := tellB_I qB hs (by omega) (by omega)
      generalize cTellD (10 + s) hB = hC at qC oC ⊢
      have qD : IB t b k f n NC cf kp (upN tk s (tk s - 1)) (upN r s 0) fr (upN d s 0) (cLast (10 + s) p1 p2 p3 (h 101 n) hC) := by
        obtain ⟨⟨c0, c1, c2, c3, c4⟩, c5, c6⟩ := qC.2.1 s hs
        refine IB_s qC hs (fun a ha => cLast_o ha) ⟨⟨?_, ?_, ?_, ?_, ?_⟩, c5, c6⟩ (fun i hi => ⟨rfl, rfl, rfl, rfl⟩)
        · rw [cLast_k (by decide)]; exact c0
        · rw [cLast_k (by decide)]; exact c1
        · rw [cLast_k (by decide)]; exact c2
        · rw [cLast_k (by decide)]; exact c3
        · rw [cLast_k (by decide)]; exact c4
      have oD : ∀ a, a ≠ 10 + s → cLast (10 + s) p1 p2 p3 (h 101 n) hC a = hC a := fun a ha => cLast_o ha
      have eL : h 101 n = cLast (10 + s) p1 p2 p3 (h 101 n) hC 101 n := by
        rw [oD 101 (by omega), oC 101 (by decide) (by decide) (by omega) (by decide), oB 101 (by omega), ha101]
      have e62 : cLast (10 + s) p1 p2 p3 (h 101 n) hC 6 2 = nI n := qD.2.2.1.1
      rw [e62]
      have o7 : cLast (10 + s) p1 p2 p3 (h 101 n) hC 7 = hA 7 := by
        rw [oD 7 (by omega), oC 7 (by decide) (by decide) (by omega) (by decide), oB 7 (by omega)]
      have oE : ∀ a, a ≠ 4 → a ≠ 5 → a ≠ 10 + s → (a < 30 ∨ 54 ≤ a) → cLast (10 + s) p1 p2 p3 (h 101 n) hC a = h a := fun a h4 h5 hk h3 => by
        rw [oD a hk, oC a h4 h5 hk h3, oB a hk, oA a h4 h5 hk h3]
      generalize hgD : cLast (10 + s) p1 p2 p3 (h 101 n) hC = hD at qD oD eL o7 oE ⊢
      rw [eL]
      obtain ⟨f1, f2, f3, f4, f5⟩ := own_I (s' := nI s) (fa := p1) (v := p2) qD hn (by omega)
      obtain ⟨p, si, li, ri, -, -⟩ := qD
      generalize cGo (nI s) p1 p2 (nI n) (hD 101 n) 6 (0, hD) = z at f1 f2 f3 f4 f5 ⊢
      have pZ : PI t b k f n z.2 := by unfold PI at p ⊢; rw [f5 0 (by decide) (by decide) (by decide)]; exact p
      have sZ : SI t b (upN tk s (tk s - 1)) (upN r s 0) fr (upN d s 0) z.2 := fun i hi => by rw [f5 (10 + i) (by omega) (by omega) (by omega)]; exact si i hi
      have lZ : LI n z.2 := by unfold LI at li ⊢; rw [f5 6 (by decide) (by decide) (by decide), f5 7 (by decide) (by decide) (by decide), f5 8 (by decide) (by decide) (by decide)]; exact li
      have rZ : RI z.2 := fun i hi => by rw [f5 (20 + i) (by omega) (by omega) (by omega)]; exact ri i hi
      have z7 : z.2 7 = hA 7 := by rw [f5 7 (by decide) (by decide) (by decide), o7]
      have hfate : ∀ x : Int32, (x = if z.1 = 0 then 2 else 3) → (x = 0 ∨ x = 1 ∨ x = 2 ∨ x = 3) := by
        intro x hx
        rw [hx]
        split
        · exact Or.inr (Or.inr (Or.inl rfl))
        · exact Or.inr (Or.inr (Or.inr rfl))
      obtain ⟨w1, w2, w3, w4, w5⟩ := IB_enter (set := z.1) (fate := if z.1 = 0 then 2 else 3) pZ hn sZ lZ rZ f1 f2 f4 (hfate _ rfl)
      have h6 := sm_6 (r := d) (s := s) (x := 0) hs
      refine ⟨NC + 1, upN tk s (tk s - 1), upN r s 0, fr, upN d s 0, w1, ⟨?_, ?_, by omega⟩, w2, fun a h4 h5 h6 h7 h8 hk h3 => (w5 a h6 h7 h8).trans ((f5 a h4 h5 h3).trans (oE a h4 h5 hk h3)), Or.inr (Or.inr ⟨?_, upN_s, ht0, upN_s, upN_s, fun q hq hb => ?_⟩)⟩
      · rw [w4, z7]; omega
      · rw [w4, z7]; omega
      · dsimp only
        rw [w3]
        by_cases c : z.1 = 0
        · exact Or.inl ⟨if_pos c, c⟩
        · exact Or.inr ⟨if_neg c, c⟩
      · dsimp only at hb ⊢
        rw [w3] at hb
        rw [w5 (30 + q) (by omega) (by omega) (by omega), w5 (30 + q + 10) (by omega) (by omega) (by omega), w5 (30 + q + 20) (by omega) (by omega) (by omega)]
        exact f3 q hq hb
