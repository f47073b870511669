/-! THE INVARIANT, II: sums, senders, the ledger, a message -/
def sm (r : Nat → Nat) : Nat → Nat
  | 0 => 0
  | n + 1 => sm r n + r n
def cn (p : Int32) (R : Nat → Int32) : Nat → Nat
  | 0 => 0
  | n + 1 => cn p R n + (if R n = p then 1 else 0)
def fw (R : Nat → Int32) : Nat → Nat
  | 0 => 0
  | n + 1 => fw R n + (if bt (R n) 4 = true then 1 else 0)
def upN (f : Nat → Nat) (s x : Nat) : Nat → Nat := fun i => if i = s then x else f i
theorem upN_s {f : Nat → Nat} {s x : Nat} : upN f s x s = x := if_pos rfl
theorem upN_n {f : Nat → Nat} {s x i : Nat} (h : i ≠ s) : upN f s x i = f i := if_neg h
theorem sm_up {r : Nat → Nat} {s x : Nat} : ∀ n, sm (upN r s x) n + (if s < n then r s else 0) = sm r n + (if s < n then x else 0) := by
  intro n
  induction n with
  | zero => simp [sm]
  | succ n ih =>
    simp only [sm]
    by_cases e : n = s
    · subst e
      rw [upN_s]
      rw [if_neg (by omega), if_neg (by omega)] at ih
      rw [if_pos (by omega), if_pos (by omega)]
      omega
    · rw [upN_n e]
      by_cases hs : s < n
      · rw [if_pos hs, if_pos hs] at ih
        rw [if_pos (by omega), if_pos (by omega)]
        omega
      · rw [if_neg hs, if_neg hs] at ih
        rw [if_neg (by omega), if_neg (by omega)]
        omega
theorem sm_6 {r : Nat → Nat} {s x : Nat} (hs : s < 6) : sm (upN r s x) 6 + r s = sm r 6 + x := by
  have h := sm_up (r := r) (s := s) (x := x) 6
  rw [if_pos hs, if_pos hs] at h
  exact h
theorem sm_1 {r : Nat → Nat} {s : Nat} (hs : s < 6) : r s ≤ sm r 6 := by
  have h := sm_6 (r := r) (s := s) (x := 0) hs
  omega
theorem cn_c {p : Int32} {R R' : Nat → Int32} : ∀ n, (∀ j, j < n → R' j = R j) → cn p R' n = cn p R n := by
  intro n
  induction n with
  | zero => intro _; rfl
  | succ n ih => intro h; simp only [cn]; rw [ih (fun j hj => h j (by omega)), h n (by omega)]
theorem fw_c {R R' : Nat → Int32} : ∀ n, (∀ j, j < n → R' j = R j) → fw R' n = fw R n := by
  intro n
  induction n with
  | zero => intro _; rfl
  | succ n ih => intro h; simp only [fw]; rw [ih (fun j hj => h j (by omega)), h n (by omega)]
theorem cn_le {p : Int32} {R : Nat → Int32} : ∀ n, cn p R n ≤ n := by
  intro n
  induction n with
  | zero => exact Nat.le_refl 0
  | succ n ih => simp only [cn]; split <;> omega
def SI (t b : Nat) (tk r fr d : Nat → Nat) (h : xH) : Prop := ∀ s, s < 6 → (h (10 + s) 0 = nI s ∧ h (10 + s) 1 = nI (tk s) ∧ h (10 + s) 2 = nI (r s) ∧ h (10 + s) 3 = nI (fr s) ∧ h (10 + s) 4 = nI (d s)) ∧ tk s ≤ b ∧ fr s ≤ t
def LI (n : Nat) (h : xH) : Prop := h 6 2 = nI n ∧ ∀ j, j < n → (h 7 j = 0 ∨ h 7 j = 1 ∨ h 7 j = 2 ∨ h 7 j = 3) ∧ ∀ i, 5 ≤ i → i < 32 → bt (h 8 j) i = false
def TH (h : xH) (q w : Nat) : Prop := bt (h 8 w) q = true
def PI (t b k f n : Nat) (h : xH) : Prop := (h 0 5 = nI t ∧ h 0 6 = nI b ∧ h 0 7 = nI k ∧ h 0 8 = nI f) ∧ t ≤ 20000 ∧ 1 ≤ b ∧ b ≤ 50 ∧ 1 ≤ k ∧ k ≤ 60 ∧ f ≤ 100 ∧ n ≤ 60
def FF (n N : Nat) (kp : Nat → Nat) (T : Nat → Nat → Prop) (h : xH) : Prop := ∀ q, q < 4 → FI n N (h 101) (T q) (kp q) (h (30 + q)) (h (30 + q + 10)) (h (30 + q + 20))
/-- all but the numbers -/
def IB (t b k f n N : Nat) (cf : Int32) (kp tk r fr d : Nat → Nat) (h : xH) : Prop := PI t b k f n h ∧ SI t b tk r fr d h ∧ LI n h ∧ RI h ∧ FF n N kp (TH h) h ∧ WI N (fw (h 8) n) cf (h 4) (h 5)
/-- the numbers -/
def NM (n N : Nat) (r d : Nat → Nat) (h : xH) : Prop := sm r 6 ≤ cn 0 (h 7) n ∧ sm d 6 ≤ cn 1 (h 7) n ∧ N + sm r 6 ≤ 3 * n
theorem NM_N {n N : Nat} {r d : Nat → Nat} {h : xH} (q : NM n N r d h) (hn : n ≤ 60) : N ≤ 180 ∧ sm r 6 ≤ 60 ∧ sm d 6 ≤ 60 := by
  obtain ⟨a, b, c⟩ := q
  have h1 := cn_le (p := 0) (R := h 7) n
  have h2 := cn_le (p := 1) (R := h 7) n
  omega
theorem IB_fr {t b k f n N : Nat} {cf : Int32} {kp tk r fr d : Nat → Nat} {h h' : xH} (q : IB t b k f n N cf kp tk r fr d h) (ao : ∀ a, a ≤ 53 → h' a = h a) (g : ∀ w, w < n → h' 101 w = h 101 w) : IB t b k f n N cf kp tk r fr d h' := by
  obtain ⟨p, si, li, ri, ff, wi⟩ := q
  refine ⟨?_, fun s hs => ?_, ?_, fun r hr => ?_, fun q hq => ?_, ?_⟩
  · unfold PI at p ⊢; rw [ao 0 (by decide)]; exact p
  · rw [ao (10 + s) (by omega)]; exact si s hs
  · unfold LI at li ⊢; rw [ao 6 (by decide), ao 7 (by decide), ao 8 (by decide)]; exact li
  · rw [ao (20 + r) (by omega)]; exact ri r hr
  · rw [ao (30 + q) (by omega), ao (30 + q + 10) (by omega), ao (30 + q + 20) (by omega)]
    exact FI_m (ff q hq) (Nat.le_refl _) (Nat.le_refl _) (by obtain ⟨-, -, -, -, -, -, -, z⟩ := p; omega) (fun w _ z => by unfold TH at z ⊢; rw [ao 8 (by decide)]; exact z) g
  · rw [ao 4 (by decide), ao 5 (by decide), ao 8 (by decide)]; exact wi
theorem IB_s {t b k f n N s : Nat} {cf : Int32} {kp tk r fr d tk' r' fr' d' : Nat → Nat} {h h' : xH} (q : IB t b k f n N cf kp tk r fr d h) (hs : s < 6) (ao : ∀ a, a ≠ 10 + s → h' a = h a)
    (e : (h' (10 + s) 0 = nI s ∧ h' (10 + s) 1 = nI (tk' s) ∧ h' (10 + s) 2 = nI (r' s) ∧ h' (10 + s) 3 = nI (fr' s) ∧ h' (10 + s) 4 = nI (d' s)) ∧ tk' s ≤ b ∧ fr' s ≤ t) (oo : ∀ i, i ≠ s → tk' i = tk i ∧ r' i = r i ∧ fr' i = fr i ∧ d' i = d i) : IB t b k f n N cf kp tk' r' fr' d' h' := by
  obtain ⟨p, si, li, ri, ff, wi⟩ := q
  refine ⟨?_, fun i hi => ?_, ?_, fun r hr => ?_, fun q hq => ?_, ?_⟩
  · unfold PI at p ⊢; rw [ao 0 (by omega)]; exact p
  · by_cases z : i = s
    · subst z; exact e
    · obtain ⟨o1, o2, o3, o4⟩ := oo i z
      rw [ao (10 + i) (by omega), o1, o2, o3, o4]; exact si i hi
  · unfold LI at li ⊢; rw [ao 6 (by omega), ao 7 (by omega), ao 8 (by omega)]; exact li
  · rw [ao (20 + r) (by omega)]; exact ri r hr
  · rw [ao (30 + q) (by omega), ao (30 + q + 10) (by omega), ao (30 + q + 20) (by omega), ao 101 (by omega)]
    have e8 : TH h' q = TH h q := by unfold TH; rw [ao 8 (by omega)]
    rw [e8]; exact ff q hq
  · rw [ao 4 (by omega), ao 5 (by omega), ao 8 (by omega)]; exact wi
theorem IB_go {t b k f n N l : Nat} {cf len s' fa v : Int32} {kp tk r fr d : Nat → Nat} {h : xH} (q : IB t b k f n N cf kp tk r fr d h) (hl : 10000 ≤ l ∧ l < 2 ^ 31) (hlen : lenW (h 101) l = len) (hN : N ≤ 399) : IB t b k f n (N + 1) cf kp tk r fr d (cGo s' fa v (nI l) len 6 (0, h)).2 ∧ ∃ e, e ≤ 6 ∧ xsum (cGo s' fa v (nI l) len 6 (0, h)).2 = xsum h + nI e := by
  obtain ⟨p, si, li, ri, ff, wi⟩ := q
  have hn : n ≤ 60 := by obtain ⟨-, -, -, -, -, -, -, z⟩ := p; exact z
  have o : ∀ a, a ≠ 4 → a ≠ 5 → (a < 30 ∨ 54 ≤ a) → (cGo s' fa v (nI l) len 6 (0, h)).2 a = h a := fun a h4 h5 h3 => cGo_o h4 h5 h3 6
  obtain ⟨g1, g2, g3, d9, hd9, g4⟩ := go_gen (s := s') (f := fa) (v := v) (line := nI l) (len := len) ri (P := fun q F R S => FI n N (h 101) (TH h q) (kp q) F R S) (Q := fun q F R S => FI n (N + 1) (h 101) (TH h q) (kp q) F R S) (PW := fun W R => WI N (fw (h 8) n) cf W R) (QW := fun W R => WI (N + 1) (fw (h 8) n) cf W R)
    (fun t ht g hg q => (FI_add hN (Nat.le_refl n) (by omega) (fun _ _ z => z) (fun _ _ => rfl) (Or.inr hl) hlen q).1) (fun g q => WI_m (WI_take (nI_pos hl.2) hN q) (Nat.le_refl _) (Nat.le_succ _)) ff wi 6 (Nat.le_refl 6)
  generalize (cGo s' fa v (nI l) len 6 (0, h)) = z at o g1 g2 g3 g4 ⊢
  refine ⟨⟨?_, fun i hi => ?_, ?_, fun r hr => ?_, fun q hq => ?_, ?_⟩, d9, hd9, g4⟩
  · unfold PI at p ⊢; rw [o 0 (by decide) (by decide) (by decide)]; exact p
  · rw [o (10 + i) (by omega) (by omega) (by omega)]; exact si i hi
  · unfold LI at li ⊢; rw [o 6 (by decide) (by decide) (by decide), o 7 (by decide) (by decide) (by decide), o 8 (by decide) (by decide) (by decide)]; exact li
  · rw [o (20 + r) (by omega) (by omega) (by omega)]; exact ri r hr
  · have e8 : TH z.2 q = TH h q := by unfold TH; rw [o 8 (by decide) (by decide) (by decide)]
    rw [e8, o 101 (by decide) (by decide) (by decide)]
    have := g1 q hq
    split at this
    · exact this
    · exact FI_m this (Nat.le_refl _) (Nat.le_succ _) (by omega) (fun _ _ z => z) (fun _ _ => rfl)
  · rw [o 8 (by decide) (by decide) (by decide)]
    split at g2
    · exact g2
    · exact WI_m g2 (Nat.le_succ _) (Nat.le_refl _)
theorem tell_line {s r : Nat} (m : Nat) : ((nI m * (nI s + 1)) + nI r) = nI (m * (s + 1) + r) := by
  rw [nI_1, pk_mul, nI_add]
theorem tell_I {t b k f n N s : Nat} {cf : Int32} {kp tk r fr d : Nat → Nat} {h : xH} (q : IB t b k f n N cf kp tk r fr d h) (hs : s < 6) (h0 : 0 < r s) (h1 : r s ≤ 1000) (hN : N ≤ 399) :
    IB t b k f n (N + 1) cf kp tk (upN r s 0) fr d (cTell (10 + s) h) ∧ (∀ a, a ≠ 4 → a ≠ 5 → a ≠ 10 + s → (a < 30 ∨ 54 ≤ a) → cTell (10 + s) h a = h a) ∧ ∃ e, e ≤ 6 ∧ xsum (cTell (10 + s) h) = xsum h + nI e := by
  obtain ⟨⟨s0, s1, s2, s3, s4⟩, s5, s6⟩ := q.2.1 s hs
  have e1 : cTell (10 + s) h = xup (cGo (nI s) (h (10 + s) 5) (h (10 + s) 6) (nI (10000 * (s + 1) + r s)) 15 6 (0, h)).2 (10 + s) 2 0 := by
    unfold cTell
    rw [if_neg (by rw [s2]; exact nI_nle h0 (by omega)), s0, s2, ← tell_line]
    rfl
  have hlen : lenW (h 101) (10000 * (s + 1) + r s) = 15 := by
    unfold lenW
    rw [if_neg (by omega), if_pos (by omega)]
  obtain ⟨g1, e9, he9, g2⟩ := IB_go (s' := nI s) (fa := h (10 + s) 5) (v := h (10 + s) 6) q (show 10000 ≤ 10000 * (s + 1) + r s ∧ 10000 * (s + 1) + r s < 2 ^ 31 by omega) hlen hN
  have o : ∀ a, a ≠ 4 → a ≠ 5 → (a < 30 ∨ 54 ≤ a) → (cGo (nI s) (h (10 + s) 5) (h (10 + s) 6) (nI (10000 * (s + 1) + r s)) 15 6 (0, h)).2 a = h a := fun a h4 h5 h3 => cGo_o h4 h5 h3 6
  rw [e1]
  generalize (cGo (nI s) (h (10 + s) 5) (h (10 + s) 6) (nI (10000 * (s + 1) + r s)) 15 6 (0, h)).2 = z at g1 g2 o ⊢
  have er : z (10 + s) = h (10 + s) := o _ (by omega) (by omega) (by omega)
  refine ⟨IB_s g1 hs (fun a ha => xup_row ha) ⟨⟨?_, ?_, ?_, ?_, ?_⟩, s5, s6⟩ (fun i hi => ⟨rfl, upN_n hi, rfl, rfl⟩), fun a h4 h5 h6 h3 => ?_, e9, he9, ?_⟩
  · rw [xup_ne (Or.inr (by decide)), er]; exact s0
  · rw [xup_ne (Or.inr (by decide)), er]; exact s1
  · rw [xup_same, upN_s, nI_0]
  · rw [xup_ne (Or.inr (by decide)), er]; exact s3
  · rw [xup_ne (Or.inr (by decide)), er]; exact s4
  · rw [xup_row h6]; exact o a h4 h5 h3
  · rw [xsum_fr (h := z) (fun k h1 h2 => by rw [xup_ne (Or.inr (by decide))])]; exact g2
theorem tellD_I {t b k f n N s : Nat} {cf : Int32} {kp tk r fr d : Nat → Nat} {h : xH} (q : IB t b k f n N cf kp tk r fr d h) (hs : s < 6) (h0 : 0 < d s) (h1 : d s ≤ 1000) (hN : N ≤ 399) :
    IB t b k f n (N + 1) cf kp tk r fr (upN d s 0) (cTellD (10 + s) h) ∧ (∀ a, a ≠ 4 → a ≠ 5 → a ≠ 10 + s → (a < 30 ∨ 54 ≤ a) → cTellD (10 + s) h a = h a) := by
  obtain ⟨⟨s0, s1, s2, s3, s4⟩, s5, s6⟩ := q.2.1 s hs
  have e1 : cTellD (10 + s) h = xup (cGo (nI s) 5 4 (nI (100000 * (s + 1) + d s)) 20 6 (0, h)).2 (10 + s) 4 0 := by
    unfold cTellD
    rw [if_neg (by rw [s4]; exact nI_nle h0 (by omega)), s0, s4, ← tell_line]
    rfl
  have hlen : lenW (h 101) (100000 * (s + 1) + d s) = 20 := by
    unfold lenW
    rw [if_pos (by omega)]
  obtain ⟨g1, -⟩ := IB_go (s' := nI s) (fa := 5) (v := 4) q (show 10000 ≤ 100000 * (s + 1) + d s ∧ 100000 * (s + 1) + d s < 2 ^ 31 by omega) hlen hN
  have o : ∀ a, a ≠ 4 → a ≠ 5 → (a < 30 ∨ 54 ≤ a) → (cGo (nI s) 5 4 (nI (100000 * (s + 1) + d s)) 20 6 (0, h)).2 a = h a := fun a h4 h5 h3 => cGo_o h4 h5 h3 6
  rw [e1]
  generalize (cGo (nI s) 5 4 (nI (100000 * (s + 1) + d s)) 20 6 (0, h)).2 = z at g1 o ⊢
  have er : z (10 + s) = h (10 + s) := o _ (by omega) (by omega) (by omega)
  refine ⟨IB_s g1 hs (fun a ha => xup_row ha) ⟨⟨?_, ?_, ?_, ?_, ?_⟩, s5, s6⟩ (fun i hi => ⟨rfl, rfl, rfl, upN_n hi⟩), fun a h4 h5 h6 h3 => ?_⟩
  · rw [xup_ne (Or.inr (by decide)), er]; exact s0
  · rw [xup_ne (Or.inr (by decide)), er]; exact s1
  · rw [xup_ne (Or.inr (by decide)), er]; exact s2
  · rw [xup_ne (Or.inr (by decide)), er]; exact s3
  · rw [xup_same, upN_s, nI_0]
  · rw [xup_row h6]; exact o a h4 h5 h3
theorem IB_enter {t b k f n N : Nat} {cf set fate : Int32} {kp tk r fr d : Nat → Nat} {g : xH} (p : PI t b k f n g) (hn : n ≤ 59) (si : SI t b tk r fr d g) (li : LI n g) (ri : RI g) (ff : FF (n + 1) N kp (fun q w => if w = n then bt set q = true else TH g q w) g) (wi : WI N (fw (g 8) n + (if bt set 4 = true then 1 else 0)) cf (g 4) (g 5)) (hset : ∀ i, 5 ≤ i → i < 32 → bt set i = false) (hfate : fate = 0 ∨ fate = 1 ∨ fate = 2 ∨ fate = 3) :
    IB t b k f (n + 1) N cf kp tk r fr d (cEnter fate set g) ∧ cEnter fate set g 7 n = fate ∧ cEnter fate set g 8 n = set ∧ (∀ p, cn p (cEnter fate set g 7) (n + 1) = cn p (g 7) n + (if fate = p then 1 else 0)) ∧ (∀ a, a ≠ 6 → a ≠ 7 → a ≠ 8 → cEnter fate set g a = g a) := by
  have e1 : cEnter fate set g = xup (xup (xup g 7 n fate) 8 n set) 6 2 (nI n + 1) := by
    unfold cEnter
    rw [li.1, nI_clamp (by omega), if_neg]
    intro z
    rcases z with z | z
    · exact nI_pos (by omega) z
    · exact nI_ge (show n < 400 by omega) (by decide) z
  have o : ∀ a, a ≠ 6 → a ≠ 7 → a ≠ 8 → cEnter fate set g a = g a := fun a h6 h7 h8 => by rw [e1, xup_row h6, xup_row h8, xup_row h7]
  have e7 : ∀ j, cEnter fate set g 7 j = if j = n then fate else g 7 j := fun j => by
    rw [e1, xup_row (show (7 : Nat) ≠ 6 by decide), xup_row (show (7 : Nat) ≠ 8 by decide)]
    by_cases z : j = n
    · rw [z, xup_same, if_pos rfl]
    · rw [xup_ne (Or.inr z), if_neg z]
  have e8 : ∀ j, cEnter fate set g 8 j = if j = n then set else g 8 j := fun j => by
    rw [e1, xup_row (show (8 : Nat) ≠ 6 by decide)]
    by_cases z : j = n
    · rw [z, xup_same, if_pos rfl]
    · rw [xup_ne (Or.inr z), xup_row (show (8 : Nat) ≠ 7 by decide), if_neg z]
  have e6 : cEnter fate set g 6 2 = nI (n + 1) := by rw [e1, xup_same, nI_1]
  have c8 : fw (cEnter fate set g 8) (n + 1) = fw (g 8) n + (if bt set 4 = true then 1 else 0) := by
    simp only [fw]
    rw [e8 n, if_pos rfl, fw_c n (fun j hj => by rw [e8, if_neg (by omega)])]
  generalize cEnter fate set g = z at o e7 e8 e6 c8 ⊢
  refine ⟨⟨?_, fun i hi => ?_, ⟨e6, fun j hj => ?_⟩, fun r hr => ?_, fun q hq => ?_, ?_⟩, by rw [e7, if_pos rfl], by rw [e8, if_pos rfl], fun p => ?_, o⟩
  · obtain ⟨p1, p2, p3, p4, p5, p6, p7, p8⟩ := p
    unfold PI
    rw [o 0 (by decide) (by decide) (by decide)]
    exact ⟨p1, p2, p3, p4, p5, p6, p7, by omega⟩
  · rw [o (10 + i) (by omega) (by omega) (by omega)]; exact si i hi
  · rw [e7, e8]
    by_cases z : j = n
    · rw [if_pos z, if_pos z]; exact ⟨hfate, hset⟩
    · rw [if_neg z, if_neg z]; exact li.2 j (by omega)
  · rw [o (20 + r) (by omega) (by omega) (by omega)]; exact ri r hr
  · rw [o (30 + q) (by omega) (by omega) (by omega), o (30 + q + 10) (by omega) (by omega) (by omega), o (30 + q + 20) (by omega) (by omega) (by omega), o 101 (by decide) (by decide) (by decide)]
    refine FI_m (ff q hq) (Nat.le_refl _) (Nat.le_refl _) (by omega) (fun w hw y => ?_) (fun _ _ => rfl)
    unfold TH
    rw [e8]
    dsimp only at y
    by_cases x : w = n
    · rw [if_pos x] at y ⊢; exact y
    · rw [if_neg x] at y ⊢; exact y
  · rw [o 4 (by decide) (by decide) (by decide), o 5 (by decide) (by decide) (by decide), c8]; exact wi
  · simp only [cn]
    rw [e7 n, if_pos rfl, cn_c n (fun j hj => by rw [e7, if_neg (by omega)])]
