/-! PURE PART 8: the calls that write -/
def Kc (h h' : xH) : Prop := ∀ a, 60 ≤ a → h' a = h a
def Km (m m' : xH) : Prop := (∀ a, (a < 60 ∨ 94 ≤ a) → m' a = m a) ∧ m' 60 0 = m 60 0
theorem Kc_r {h : xH} : Kc h h := fun _ _ => rfl
theorem Km_r {h : xH} : Km h h := ⟨fun _ _ => rfl, rfl⟩
theorem Kc_t {a b c : xH} (x : Kc a b) (y : Kc b c) : Kc a c := fun i hi => (y i hi).trans (x i hi)
theorem Km_t {a b c : xH} (x : Km a b) (y : Km b c) : Km a c := ⟨fun i hi => (y.1 i hi).trans (x.1 i hi), y.2.trans x.2⟩
theorem Kc_u {h : xH} {k j : Nat} {x : Int32} (hk : k < 60) : Kc h (xup h k j x) := fun a ha => xup_row (by omega)
theorem Km_u {h : xH} {k j : Nat} {x : Int32} (hk : 60 ≤ k) (h2 : k < 94) (hj : k ≠ 60 ∨ j ≠ 0) : Km h (xup h k j x) := ⟨fun a ha => xup_row (by omega), xup_ne (by omega)⟩
theorem br {c r : Int32} {h C : xH} (g : GG c h h) (k : Kc h C) : GG c h (xup (xup C 100 0 r) 60 0 0) :=
  GG_0 (GG_fr g (fun _ _ => rfl) (fun a b h1 h2 _ => by rw [xup_row (by omega), k a h1]))
theorem br_e {c r b : Int32} {C Q : xH} {J : Int32 → Int32 → xH → Prop} (hJ : Ends3 J) (g : GG c C Q) (km : Km (xup (xup C 100 0 r) 60 0 0) Q) (e : r = b) : J 0 b Q :=
  hJ 0 b Q (by rw [km.2, xup_same]) (fun _ => by rw [km.1 100 (by omega), xup_row (by decide), xup_same, e])
    (LG_of g (fun a ha => by rw [km.1 a (by omega), xup_row (by omega), xup_row (by omega)]) (fun _ _ _ _ _ => rfl))
theorem bad_of {p : Int32} {hi : Nat} (hh : hi < 2 ^ 31) (h : ∀ j, j ≤ hi → ¬ p = nI j) : p < 0 ∨ nI hi < p := by
  by_cases a : p < 0
  · exact Or.inl a
  · by_cases b : nI hi < p
    · exact Or.inr b
    · obtain ⟨j, hj, e⟩ := rng hh a b
      exact absurd e (h j hj)
theorem C_wG {v lo hi : Int32} {h : xH} {K : Int32 → xH → Prop} {A : Prop} (h0 : v < lo ∨ hi < v → K 0 h) (h1 : ¬ v < lo ∧ ¬ hi < v → K 1 h) : w_X5_isWithin v lo hi h K := C_isWithin (fun a b => h1 ⟨a, b⟩) h0
theorem M_y {v lo hi : Int32} {m : xH} {K : Int32 → xH → Prop} (g : ¬ v < lo ∧ ¬ hi < v) (h1 : K 1 m) : w_X6_isIn v lo hi m K := M_isIn (fun _ _ => h1) (fun q => absurd q (fun z => by rcases z with z | z; exact g.1 z; exact g.2 z))
theorem M_n {v lo hi : Int32} {m : xH} {K : Int32 → xH → Prop} (g : v < lo ∨ hi < v) (h0 : K 0 m) : w_X6_isIn v lo hi m K := M_isIn (fun a b => absurd g (fun z => by rcases z with z | z; exact a z; exact b z)) (fun _ => h0)
theorem M_b {v lo hi : Int32} {m : xH} {K : Int32 → xH → Prop} (h1 : K 1 m) (h0 : K 0 m) : w_X6_isIn v lo hi m K := M_isIn (fun _ _ => h1) (fun _ => h0)
-- setFold
theorem GG_p {c : Int32} {h h' m m' : xH} (g : GG c h m) (ao : ∀ a, a ≠ 0 → h' a = h a) (mo : ∀ a b, ¬ (a = 60 ∧ 2 ≤ b ∧ b ≤ 4) → m' a b = m a b) (hp : h' 0 5 = m' 60 1 ∧ h' 0 6 = m' 60 2 ∧ h' 0 7 = m' 60 3 ∧ h' 0 8 = m' 60 4 ∧ ¬ m' 60 4 < 0 ∧ 0 < m' 60 3) : GG c h' m' := by
  obtain ⟨⟨g1, g2, g3, g4⟩, N, n, gf, hn, h4, hq⟩ := g
  have mr : ∀ a, a ≠ 60 → m' a = m a := fun a h1 => by funext b; exact mo a b (by omega)
  refine ⟨⟨hp, fun k hk => ?_, fun k hk => ?_, ?_⟩, N, n, GF_fr gf (by omega) (ao 4 (by decide)) (ao 5 (by decide)) (fun k h1 h2 => ao k (by omega)) (fun k h1 h2 => mr k (by omega)) (mr 85 (by decide)) (fun b h1 h2 => mo 60 b (by omega)), ?_, h4, ?_⟩
  · unfold RS
    rw [ao (10 + k) (by omega), mr 65 (by decide), mr 66 (by decide), mr 67 (by decide), mr 68 (by decide), mr 69 (by decide)]
    exact g2 k hk
  · rw [mr 66 (by decide), mr 69 (by decide)]; exact g3 k hk
  · unfold RLg
    rw [ao 6 (by decide), ao 7 (by decide), ao 8 (by decide), mr 92 (by decide), mr 93 (by decide), mo 60 31 (by omega)]
    exact g4
  · rw [mo 60 31 (by omega)]; exact hn
  · rw [cntN_fr (mr 66 (by decide)) (mr 68 (by decide)) 6]; exact hq
theorem op_setFold {h : xH} (g : LG h) {p0 : Int32} {J : Int32 → Int32 → xH → Prop} (hJ : Ends3 J) : w_L_setFold p0 h (fun k h1 => w_X6_setFold p0 h1 (fun b h2 => J k b h2)) := by
  unfold w_L_setFold w_X5_setFold w_X6_setFold
  refine C_isWithin (fun a b => T1 ?_) (fun q => T0 ⟨rfl, M_n q (T0 (M_h1 (T0 (fin_x hJ g (by decide)))))⟩)
  rintro x4 rfl h5 rfl h3 rfl
  refine M_y ⟨a, b⟩ (T1 (M_h0 (T1 ?_)))
  rintro x7 rfl h8 rfl
  obtain ⟨c, g⟩ := g
  have gb := br (c := c) (r := h 0 8) g (Kc_u (h := h) (k := 0) (j := 8) (x := p0) (by decide))
  have hp := gb.1.1
  refine br_e (c := c) hJ (C := xup h 0 8 p0) (GG_p gb (fun k hk => xup_row hk) (fun a b hab => xup_ne (by omega)) ?_) (Km_u (by decide) (by decide) (Or.inr (by decide))) hp.2.2.2.1
  refine ⟨?_, ?_, ?_, ?_, ?_, ?_⟩
  · rw [xup_ne (Or.inr (by decide)), xup_ne (Or.inr (by decide))]; exact hp.1
  · rw [xup_ne (Or.inr (by decide)), xup_ne (Or.inr (by decide))]; exact hp.2.1
  · rw [xup_ne (Or.inr (by decide)), xup_ne (Or.inr (by decide))]; exact hp.2.2.1
  · rw [xup_same, xup_same]
  · rw [xup_same]; exact a
  · rw [xup_ne (Or.inr (by decide))]; exact hp.2.2.2.2.2
-- setRate
def cCap (p : Int32) : Nat → xH → xH
  | 0, h => h
  | n + 1, h => if cCap p n h (10 + n) 1 ≤ p then cCap p n h else xup (cCap p n h) (10 + n) 1 p
def fCap (p : Int32) : Nat → xH → xH
  | 0, m => m
  | n + 1, m => xup (fCap p n m) 65 n (if fCap p n m 65 n ≤ p then fCap p n m 65 n else p)
theorem cCap_o {p : Int32} {h : xH} : ∀ n, n ≤ 6 → ∀ a, (a < 10 ∨ 16 ≤ a) → cCap p n h a = h a := by
  intro n
  induction n with
  | zero => intro _ a _; rfl
  | succ n ih =>
    intro hn a ha
    show (if _ then _ else _ : xH) a = h a
    split
    · exact ih (by omega) a ha
    · rw [xup_row (by omega)]; exact ih (by omega) a ha
theorem fCap_o {p : Int32} {m : xH} : ∀ n, ∀ a, a ≠ 65 → fCap p n m a = m a := by
  intro n
  induction n with
  | zero => intro a _; rfl
  | succ n ih =>
    intro a ha
    show xup _ 65 n _ a = m a
    rw [xup_row ha]; exact ih a ha
theorem cap_GG {c p : Int32} {h m : xH} (g : GG c h m) : ∀ n, n ≤ 6 → GG c (cCap p n h) (fCap p n m) := by
  intro n
  induction n with
  | zero => intro _; exact g
  | succ n ih =>
    intro hn
    have gi := ih (by omega)
    have e1 := (gi.1.2.1 n (by omega)).2.1
    show GG c (if _ then _ else _) (xup _ _ _ (if _ then _ else _))
    by_cases e : fCap p n m 65 n ≤ p
    · rw [if_pos e, if_pos (by rw [e1]; exact e), xup_id rfl]; exact gi
    · rw [if_neg e, if_neg (by rw [e1]; exact e)]
      exact tok_GG (by omega) gi
theorem C_cap {p0 p1 v : Int32} {h : xH} {K : Int32 → xH → Prop} {KX : String → xH → Prop} (hK : K v (cCap p0 6 h)) : ∃ n : Nat, w_X5_setRate_48 p0 p1 K KX n v 0 h := by
  have loop : ∀ d i, i + d = 6 → w_X5_setRate_48 p0 p1 K KX (d + 1) v (nI i) (cCap p0 i h) := by
    intro d
    induction d with
    | zero =>
      intro i hi
      have h6 : i = 6 := by omega
      subst h6
      rw [w_X5_setRate_48_s]
      exact ⟨fun _ => hK, fun c => absurd (nI_le (Nat.le_refl 6) (by decide)) c⟩
    | succ d ih =>
      intro i hi
      have nx := ih (i + 1) (by omega)
      rw [show cCap p0 (i + 1) h = if cCap p0 i h (10 + i) 1 ≤ p0 then cCap p0 i h else xup (cCap p0 i h) (10 + i) 1 p0 from rfl] at nx
      rw [w_X5_setRate_48_s, nI_clamp (by omega)]
      refine ⟨fun c => absurd c (nI_ge (show i < 6 by omega) (by decide)), fun _ => ⟨vp_in_nI (show i < 6 by omega) (by decide), fun c => ?_, fun c => ?_⟩⟩
      · rintro x rfl
        rw [if_pos c] at nx
        rw [nI_1]; exact nx
      · rintro h2 rfl x rfl
        rw [if_neg c] at nx
        rw [nI_1]; exact nx
  exact ⟨7, loop 6 0 rfl⟩
theorem M_cap {p0 p1 v : Int32} {m : xH} {K : Int32 → xH → Prop} (e2 : m 60 2 = p0) (hK : K v (fCap p0 6 m)) : ∃ n : Nat, w_X6_setRate_52 p0 p1 K n v 0 m := by
  have loop : ∀ d i, i + d = 6 → w_X6_setRate_52 p0 p1 K (d + 1) v (nI i) (fCap p0 i m) := by
    intro d
    induction d with
    | zero =>
      intro i hi
      have h6 : i = 6 := by omega
      subst h6
      rw [w_X6_setRate_52_s]
      exact ⟨fun _ => hK, fun c => absurd (nI_le (Nat.le_refl 6) (by decide)) c⟩
    | succ d ih =>
      intro i hi
      have nx := ih (i + 1) (by omega)
      rw [show fCap p0 (i + 1) m = xup (fCap p0 i m) 65 i (if fCap p0 i m 65 i ≤ p0 then fCap p0 i m 65 i else p0) from rfl] at nx
      have hin : vp_in (nI i) 6 := vp_in_nI (by omega) (by decide)
      have e60 : fCap p0 i m 60 2 = p0 := by rw [fCap_o i 60 (by decide)]; exact e2
      have p93 : ∀ y : Int32, (y = if fCap p0 i m 65 i ≤ p0 then fCap p0 i m 65 i else p0) → w_X6_setRate_93 p0 p1 K (w_X6_setRate_52 p0 p1 K (d + 1)) v (nI i) (nI i) y (fCap p0 i m) := by
        intro y hy
        unfold w_X6_setRate_93
        rw [nI_clamp (by omega)]
        refine ⟨hin, ?_⟩
        rintro h18 rfl x rfl
        rw [nI_1, hy]; exact nx
      rw [w_X6_setRate_52_s, nI_clamp (by omega), e60]
      refine ⟨fun c => absurd c (nI_ge (show i < 6 by omega) (by decide)), fun _ => ⟨hin, fun c => ⟨hin, p93 _ (by rw [if_pos c])⟩, fun c => p93 _ (by rw [if_neg c])⟩⟩
  exact ⟨7, loop 6 0 rfl⟩
theorem op_setRate {h : xH} (g : LG h) {p0 p1 : Int32} {J : Int32 → Int32 → xH → Prop} (hJ : Ends3 J) : w_L_setRate p0 p1 h (fun k h1 => w_X6_setRate p0 p1 h1 (fun b h2 => J k b h2)) := by
  unfold w_L_setRate w_X5_setRate w_X6_setRate
  have x25 : w_X6_setRate_25 p0 p1 (fun b h2 => J 1 b h2) 60 h := by
    unfold w_X6_setRate_25 w_X6_setRate_26
    exact M_h1 (T0 (fin_x hJ g (by decide)))
  refine C_isWithin (fun a b => T1 (C_isWithin (fun a2 b2 => T1 ?_) (fun q => T0 ⟨rfl, M_y ⟨a, b⟩ (T1 (M_n q (T0 x25)))⟩))) (fun q => T0 ⟨rfl, M_n q (T0 x25)⟩)
  rintro x7 rfl h8 rfl h9 rfl
  refine C_cap ?_
  rintro h3 rfl
  refine M_y ⟨a, b⟩ (T1 (M_y ⟨a2, b2⟩ (T1 (M_h0 (T1 ?_)))))
  rintro x10 rfl h11 rfl h12 rfl
  refine M_cap (by rw [xup_ne (Or.inr (by decide)), xup_same]) ?_
  obtain ⟨c, g⟩ := g
  have kc : Kc h (cCap p0 6 (xup (xup h 0 6 p0) 0 7 p1)) := fun k hk => by rw [cCap_o 6 (by decide) k (by omega), xup_row (by omega), xup_row (by omega)]
  have gb := br (c := c) (r := h 0 6) g kc
  have hp := gb.1.1
  refine br_e (c := c) hJ (C := cCap p0 6 (xup (xup h 0 6 p0) 0 7 p1)) (cap_GG (GG_p gb (fun k hk => by rw [xup_row hk, xup_row hk]) (fun a b hab => by rw [xup_ne (by omega), xup_ne (by omega)]) ?_) 6 (by decide)) ⟨fun k hk => ?_, ?_⟩ hp.2.1
  · refine ⟨?_, ?_, ?_, ?_, ?_, ?_⟩
    · rw [xup_ne (Or.inr (by decide)), xup_ne (Or.inr (by decide)), xup_ne (Or.inr (by decide)), xup_ne (Or.inr (by decide))]; exact hp.1
    · rw [xup_ne (Or.inr (by decide)), xup_same, xup_ne (Or.inr (by decide)), xup_same]
    · rw [xup_same, xup_same]
    · rw [xup_ne (Or.inr (by decide)), xup_ne (Or.inr (by decide)), xup_ne (Or.inr (by decide)), xup_ne (Or.inr (by decide))]; exact hp.2.2.2.1
    · rw [xup_ne (Or.inr (by decide)), xup_ne (Or.inr (by decide))]; exact hp.2.2.2.2.1
    · rw [xup_same, Int32.lt_iff_toInt_lt]
      rw [Int32.lt_iff_toInt_lt] at a2
      have e0 : (0 : Int32).toInt = 0 := by decide
      have e1 : (1 : Int32).toInt = 1 := by decide
      omega
  · rw [fCap_o 6 k (by omega), xup_row (by omega), xup_row (by omega)]
  · rw [fCap_o 6 60 (by omega), xup_ne (Or.inr (by decide)), xup_ne (Or.inr (by decide))]
-- rules
theorem GG_r {c : Int32} {h h' m m' : xH} (g : GG c h m) (ao : ∀ a, (a < 20 ∨ 26 ≤ a) → h' a = h a) (mo : ∀ a, (a < 70 ∨ 75 ≤ a) → m' a = m a) (rr : RR h' m') (oo : OR m') : GG c h' m' := by
  obtain ⟨gs, N, n, ⟨g1, g2, g3, g4, g5, g6⟩, hn, h4, hq⟩ := g
  refine ⟨GS_fr gs (ao 0 (by omega)) (fun k h1 h2 => ao k (by omega)) (ao 6 (by omega)) (ao 7 (by omega)) (ao 8 (by omega)) (fun k h1 h2 => mo k (by omega)) (by rw [mo 60 (by omega)]) (by rw [mo 60 (by omega)]) (by rw [mo 60 (by omega)]) (by rw [mo 60 (by omega)]) (by rw [mo 60 (by omega)]) (mo 92 (by omega)) (mo 93 (by omega)), N, n, ⟨RA_fr g1 (fun f hf => OF_mono (g5 f hf) (by omega)) (fun k h1 h2 => ao k (by omega)) (fun k h1 h2 => mo k (by omega)) (by rw [mo 60 (by omega)]), RW_fr g2 (ao 4 (by omega)) (ao 5 (by omega)) (by rw [mo 60 (by omega)]) (by rw [mo 60 (by omega)]) (by rw [mo 60 (by omega)]) (by rw [mo 60 (by omega)]) (by rw [mo 60 (by omega)]) (mo 85 (by omega)), rr, oo, fun f hf => OF_fr (g5 f hf) (by rw [mo 79 (by omega)]) (fun j hj => by rw [mo 81 (by omega)]) (by rw [mo 80 (by omega)]) (by rw [mo 77 (by omega)]) (by rw [mo 76 (by omega)]), OW_fr g6 (by rw [mo 60 (by omega)]) (by rw [mo 60 (by omega)]) (by rw [mo 60 (by omega)]) (by rw [mo 60 (by omega)])⟩, by rw [mo 60 (by omega)]; exact hn, h4, ?_⟩
  rw [cntN_fr (mo 66 (by omega)) (mo 68 (by omega)) 6]; exact hq
def cPutR (k : Nat) (a b d e : Int32) (h : xH) : xH := xup (xup (xup (xup (xup h k 0 1) k 1 a) k 2 b) k 3 d) k 4 e
def fPutR (j : Nat) (a b d e : Int32) (m : xH) : xH := xup (xup (xup (xup (xup m 70 j 1) 71 j a) 72 j b) 73 j d) 74 j e
theorem GG_set {c : Int32} {j t : Nat} {a b d : Int32} {h m : xH} (hj : j < 6) (ht : t ≤ 4) (g : GG c h m) : GG c (cPutR (20 + j) a b d (nI t) h) (fPutR j a b d (nI t) m) := by
  have g3 : RR h m := by obtain ⟨gs, N, n, gf, _⟩ := g; exact gf.2.2.1
  have g4 : OR m := by obtain ⟨gs, N, n, gf, _⟩ := g; exact gf.2.2.2.1
  refine GG_r g (fun a ha => by unfold cPutR; rw [xup_row (by omega), xup_row (by omega), xup_row (by omega), xup_row (by omega), xup_row (by omega)]) (fun a ha => by unfold fPutR; rw [xup_row (by omega), xup_row (by omega), xup_row (by omega), xup_row (by omega), xup_row (by omega)]) (fun r hr => ?_) (fun r hr => ?_)
  · by_cases e : r = j
    · subst e
      unfold cPutR fPutR
      simp [xup]
    · have q := g3 r hr
      have e2 : ¬ 20 + r = 20 + j := by omega
      unfold cPutR fPutR
      simpa [xup, e, e2] using q
  · by_cases e : r = j
    · subst e
      unfold fPutR
      refine ⟨by simp [xup], t, ht, by simp [xup]⟩
    · have q := g4 r hr
      unfold fPutR
      simpa [xup, e] using q
def numS (r : Nat → Int32) : Nat → Int32
  | 0 => 0
  | n + 1 => if r n = 0 then numS r n else numS r n + 1
theorem numS_congr {r r' : Nat → Int32} : ∀ n, (∀ j, j < n → r j = r' j) → numS r n = numS r' n := by
  intro n
  induction n with
  | zero => intro _; rfl
  | succ n ih =>
    intro hr
    simp only [numS, hr n (by omega), ih (fun j hj => hr j (by omega))]
theorem C_num {h : xH} {K : Int32 → xH → Prop} (hK : K (numS (fun i => h (20 + i) 0) 6) h) : w_X5_rulesThatAreSet h K := by
  have loop : ∀ d i, i + d = 6 → w_X5_rulesThatAreSet_4 K (d + 1) (numS (fun i => h (20 + i) 0) i) (nI i) h := by
    intro d
    induction d with
    | zero =>
      intro i hi
      have h6 : i = 6 := by omega
      subst h6
      rw [w_X5_rulesThatAreSet_4_s]
      exact ⟨fun _ => hK, fun c => absurd (nI_le (Nat.le_refl 6) (by decide)) c⟩
    | succ d ih =>
      intro i hi
      have nx := ih (i + 1) (by omega)
      rw [show numS (fun i => h (20 + i) 0) (i + 1) = if h (20 + i) 0 = 0 then numS (fun i => h (20 + i) 0) i else numS (fun i => h (20 + i) 0) i + 1 from rfl] at nx
      rw [w_X5_rulesThatAreSet_4_s, nI_clamp (by omega)]
      refine ⟨fun c => absurd c (nI_ge (show i < 6 by omega) (by decide)), fun _ => ⟨vp_in_nI (show i < 6 by omega) (by decide), fun c => ?_, fun c => ?_⟩⟩
      · rintro x rfl
        rw [if_pos c] at nx
        rw [nI_1]; exact nx
      · rintro x6 rfl x rfl
        rw [if_neg c] at nx
        rw [nI_1]; exact nx
  exact ⟨7, loop 6 0 rfl⟩
theorem M_num {p0 p1 p2 p3 p4 : Int32} {m : xH} {K : Int32 → xH → Prop} (hK : K (numS (m 70) 6) m) : ∃ n : Nat, w_X6_setRule_135 p0 p1 p2 p3 p4 K n 0 0 m := by
  have loop : ∀ d i, i + d = 6 → w_X6_setRule_135 p0 p1 p2 p3 p4 K (d + 1) (numS (m 70) i) (nI i) m := by
    intro d
    induction d with
    | zero =>
      intro i hi
      have h6 : i = 6 := by omega
      subst h6
      rw [w_X6_setRule_135_s]
      exact ⟨fun _ => hK, fun c => absurd (nI_le (Nat.le_refl 6) (by decide)) c⟩
    | succ d ih =>
      intro i hi
      have nx := ih (i + 1) (by omega)
      rw [show numS (m 70) (i + 1) = if m 70 i = 0 then numS (m 70) i else numS (m 70) i + 1 from rfl] at nx
      rw [w_X6_setRule_135_s, nI_clamp (by omega)]
      refine ⟨fun c => absurd c (nI_ge (show i < 6 by omega) (by decide)), fun _ => ⟨vp_in_nI (show i < 6 by omega) (by decide), fun c => ?_, fun c => ?_⟩⟩
      · rintro x34 rfl x rfl
        rw [if_pos c] at nx
        rw [nI_1, Int32.add_zero]; exact nx
      · rintro x34 rfl x rfl
        rw [if_neg c] at nx
        rw [nI_1]; exact nx
  exact ⟨7, loop 6 0 rfl⟩
theorem op_setRule {h : xH} (g : LG h) {p0 p1 p2 p3 p4 : Int32} {J : Int32 → Int32 → xH → Prop} (hJ : Ends3 J) : w_L_setRule p0 p1 p2 p3 p4 h (fun k h1 => w_X6_setRule p0 p1 p2 p3 p4 h1 (fun b h2 => J k b h2)) := by
  unfold w_L_setRule w_X5_setRule
  have x62 : ∀ s, w_X6_setRule_62 p0 p1 p2 p3 p4 (fun b h2 => J 1 b h2) 0 s h := fun s => T0 (M_h1 (T0 (fin_x hJ g (by decide))))
  have x24 : w_X6_setRule_24 p0 p1 p2 p3 p4 (fun b h2 => J 1 b h2) 0 h := M_b (T1 (M_b (T1 (M_b (T1 (x62 1)) (T0 (x62 0)))) (T0 (x62 0)))) (T0 (x62 0))
  have x61 : w_X6_setRule_61 p0 p1 p2 p3 p4 (fun b h2 => J 2 b h2) 1 h := T1 (T0 (M_h2 (T0 (fin_x hJ g (by decide)))))
  refine C_ruleAt (fun j hj e => ⟨⟨by omega, by omega⟩, ?_⟩) (fun hn => Or.inl ⟨rfl, M_n (bad_of (hi := 5) (by decide) (fun j hj => hn j (by omega))) (T0 x24)⟩)
  have y0 : ¬ p0 < 0 ∧ ¬ (5 : Int32) < p0 := by rw [e]; exact nI_rng (n := j) (hi := 5) (by omega) (by decide)
  refine C_isWithin (fun a3 b3 => T1 ?_) (fun q => T0 (Or.inl ⟨rfl, M_y y0 (T1 (M_n q (T0 x24)))⟩))
  refine C_isWithin (fun a1 b1 => T1 ?_) (fun q => T0 (Or.inr ⟨rfl, M_y y0 (T1 (M_y ⟨a3, b3⟩ (T1 (M_n q (T0 x61)))))⟩))
  refine C_isWithin (fun a2 b2 => T1 ?_) (fun q => T0 (Or.inr ⟨rfl, M_y y0 (T1 (M_y ⟨a3, b3⟩ (T1 (M_y ⟨a1, b1⟩ (T1 (M_n q (T0 x61)))))))⟩))
  refine C_isWithin (fun a4 b4 => T1 ?_) (fun q => T0 (Or.inr ⟨rfl, M_y y0 (T1 (M_y ⟨a3, b3⟩ (T1 (M_y ⟨a1, b1⟩ (T1 (M_y ⟨a2, b2⟩ (T1 (M_n q (T0 x61)))))))))⟩))
  rintro h1 rfl h2 rfl h3 rfl h4 rfl h5 rfl
  refine C_num ?_
  rintro h3 rfl
  refine M_y y0 (T1 (M_y ⟨a3, b3⟩ (T1 (M_y ⟨a1, b1⟩ (T1 (M_y ⟨a2, b2⟩ (T1 (M_y ⟨a4, b4⟩ (T1 (T1 (T1 (M_h0 (T1 ?_))))))))))))) 
  obtain ⟨t, ht, e4⟩ := rng (hi := 4) (by decide) a4 b4
  subst e4
  subst e
  rw [nI_clamp (by omega)]
  have hin : vp_in (nI j) 6 := vp_in_nI hj (by decide)
  refine ⟨hin, ?_⟩
  rintro h22 rfl
  refine ⟨hin, ?_⟩
  rintro h24 rfl
  refine ⟨hin, ?_⟩
  rintro h26 rfl
  refine ⟨hin, ?_⟩
  rintro h28 rfl
  refine ⟨hin, ?_⟩
  rintro h30 rfl
  refine M_num ?_
  obtain ⟨c, g⟩ := g
  have kc : Kc h (cPutR (20 + j) p1 p2 p3 (nI t) h) := fun k hk => by unfold cPutR; rw [xup_row (by omega), xup_row (by omega), xup_row (by omega), xup_row (by omega), xup_row (by omega)]
  have gb := GG_set (j := j) (t := t) (a := p1) (b := p2) (d := p3) hj ht (br (c := c) (r := numS (fun i => cPutR (20 + j) p1 p2 p3 (nI t) h (20 + i) 0) 6) g kc)
  refine br_e (c := c) (r := numS (fun i => cPutR (20 + j) p1 p2 p3 (nI t) h (20 + i) 0) 6) (b := numS (fPutR j p1 p2 p3 (nI t) (xup (xup (cPutR (20 + j) p1 p2 p3 (nI t) h) 100 0 (numS (fun i => cPutR (20 + j) p1 p2 p3 (nI t) h (20 + i) 0) 6)) 60 0 0) 70) 6) hJ gb ⟨fun k hk => ?_, ?_⟩ ?_
  · rw [xup_row (by omega), xup_row (by omega), xup_row (by omega), xup_row (by omega), xup_row (by omega)]; rfl
  · rw [xup_row (by omega), xup_row (by omega), xup_row (by omega), xup_row (by omega), xup_row (by omega)]; rfl
  · refine numS_congr 6 (fun i hi => ?_)
    obtain ⟨gs, N, n, gf, _⟩ := gb
    exact (gf.2.2.1 i hi).1
theorem nb01 {x : Int32} (h : x = 0 ∨ x = 1) : narrow .boolean (.int x) = .int x := by
  rcases h with rfl | rfl <;> decide +kernel
theorem op_removeRule {h : xH} (g : LG h) {p0 : Int32} {J : Int32 → Int32 → xH → Prop} (hJ : Ends3 J) : w_L_removeRule p0 h (fun k h1 => w_X6_removeRule p0 h1 (fun b h2 => J k b h2)) := by
  unfold w_L_removeRule w_X5_removeRule w_X6_removeRule
  refine C_ruleAt (fun j hj e => ⟨⟨by omega, by omega⟩, ?_⟩) (fun hn => ⟨rfl, M_n (bad_of (hi := 5) (by decide) (fun j hj => hn j (by omega))) (T0 (M_h1 (T0 (fin_x hJ g (by decide)))))⟩)
  have y0 : ¬ p0 < 0 ∧ ¬ (5 : Int32) < p0 := by rw [e]; exact nI_rng (n := j) (hi := 5) (by omega) (by decide)
  subst e
  have hin : vp_in (nI j) 6 := vp_in_nI hj (by decide)
  obtain ⟨c, g⟩ := g
  have key : ∀ r : Int32, r = h (20 + j) 0 → ∀ h3, h3 = xup (xup h (20 + j) 0 0) 100 0 r → w_X6_isIn (nI j) 0 5 h3 (fun r1 h2 => ((r1 = 0 → w_X6_removeRule_15 (nI j) (fun b h2 => J 0 b h2) 60 1 h2) ∧ (¬ (r1 = 0) → w_X6_removeRule_15 (nI j) (fun b h2 => J 0 b h2) 60 0 h2))) := by
    rintro r hr h3 rfl
    refine M_y y0 (T1 (M_h0 (T1 ?_)))
    rw [nI_clamp (by omega)]
    refine ⟨hin, ?_⟩
    rintro x8 rfl
    refine ⟨hin, ?_⟩
    rintro h10 rfl
    have gb := br (c := c) (r := r) g (Kc_u (h := h) (k := 20 + j) (j := 0) (x := 0) (by omega))
    have g3 : RR h (xup (xup (xup h (20 + j) 0 0) 100 0 r) 60 0 0) := by obtain ⟨gs, N, n, gf, _⟩ := gb; exact gf.2.2.1
    have g4 : OR (xup (xup (xup h (20 + j) 0 0) 100 0 r) 60 0 0) := by obtain ⟨gs, N, n, gf, _⟩ := gb; exact gf.2.2.2.1
    refine ⟨nb01 (g4 j hj).1, ?_⟩
    refine br_e (c := c) hJ (GG_r gb (h' := xup h (20 + j) 0 0) (fun a ha => xup_row (by omega)) (fun a ha => xup_row (by omega)) (fun r' hr' => ?_) (fun r' hr' => ?_)) (Km_u (by decide) (by decide) (Or.inl (by decide))) (by rw [hr]; exact (g3 j hj).1)
    · generalize xup (xup (xup h (20 + j) 0 0) 100 0 r) 60 0 0 = m at g3 g4 ⊢
      have q := g3 r' hr'
      by_cases e : r' = j
      · subst e
        simp [xup]
        exact ⟨q.2.1, q.2.2.1, q.2.2.2.2⟩
      · have e2 : ¬ 20 + r' = 20 + j := by omega
        simpa [xup, e, e2] using q
    · generalize xup (xup (xup h (20 + j) 0 0) 100 0 r) 60 0 0 = m at g3 g4 ⊢
      have q := g4 r' hr'
      by_cases e : r' = j
      · subst e
        simp [xup]
        exact q.2
      · simpa [xup, e] using q
  rintro x4 rfl h5 rfl
  have ho : h (20 + j) 0 = 0 ∨ h (20 + j) 0 = 1 := by
    obtain ⟨gs, N, n, gf, _⟩ := g
    rw [(gf.2.2.1 j hj).1]
    exact (gf.2.2.2.1 j hj).1
  refine ⟨nb01 ho, fun c => ?_, fun c => ?_⟩
  · exact fun h4 e4 => key 0 c.symm h4 e4
  · exact fun h4 e4 => key 1 (by rcases ho with q | q; exact absurd q c; exact q.symm) h4 e4
-- setFile
theorem GG_f {c : Int32} {f : Nat} {h h' m m' : xH} (hf : f < 4) (g : GG c h m) (ao : ∀ a, a ≠ 30 + f → h' a = h a) (h9 : h' (30 + f) 9 = h (30 + f) 9) (mo : ∀ a b, ¬ (b = f ∧ 75 ≤ a ∧ a ≤ 80) → m' a b = m a b) (rf : RF h' m' f) (oo : ∀ N, OF m f N → OF m' f N) : GG c h' m' := by
  obtain ⟨gs, N, n, ⟨g1, g2, g3, g4, g5, g6⟩, hn, h4, hq⟩ := g
  have mr : ∀ a, (a < 75 ∨ 80 < a) → m' a = m a := fun a h1 => by funext b; exact mo a b (by omega)
  refine ⟨GS_fr gs (ao 0 (by omega)) (fun k h1 h2 => ao k (by omega)) (ao 6 (by omega)) (ao 7 (by omega)) (ao 8 (by omega)) (fun k h1 h2 => mr k (by omega)) (by rw [mr 60 (by omega)]) (by rw [mr 60 (by omega)]) (by rw [mr 60 (by omega)]) (by rw [mr 60 (by omega)]) (by rw [mr 60 (by omega)]) (mr 92 (by omega)) (mr 93 (by omega)), N, n, ⟨⟨fun f' hf' => ?_, ?_⟩, RW_fr g2 (ao 4 (by omega)) (ao 5 (by omega)) (by rw [mr 60 (by omega)]) (by rw [mr 60 (by omega)]) (by rw [mr 60 (by omega)]) (by rw [mr 60 (by omega)]) (by rw [mr 60 (by omega)]) (mr 85 (by omega)), RR_fr g3 (fun k h1 h2 => ao k (by omega)) (fun k h1 h2 => mr k (by omega)), OR_fr g4 (fun k h1 h2 => mr k (by omega)), fun f' hf' => ?_, OW_fr g6 (by rw [mr 60 (by omega)]) (by rw [mr 60 (by omega)]) (by rw [mr 60 (by omega)]) (by rw [mr 60 (by omega)])⟩, by rw [mr 60 (by omega)]; exact hn, h4, ?_⟩
  · by_cases e : f' = f
    · subst e; exact rf
    · exact RF_fr (g1.1 f' hf') (OF_mono (g5 f' hf') (by omega)) (ao _ (by omega)) (ao _ (by omega)) (ao _ (by omega)) (mo 79 f' (by omega)) (fun j hj => mo 81 _ (by omega)) (mo 80 f' (by omega)) (mo 77 f' (by omega)) (mo 76 f' (by omega)) (mo 75 f' (by omega)) (mo 78 f' (by omega)) (fun j hj => mo 82 _ (by omega)) (fun j hj => mo 83 _ (by omega))
  · rw [mr 60 (by omega), ← g1.2]
    refine xsum_fr (fun k h1 h2 => ?_)
    by_cases e : k = 30 + f
    · subst e; exact h9
    · rw [ao k e]
  · by_cases e : f' = f
    · subst e; exact oo N (g5 f' hf')
    · exact OF_fr (g5 f' hf') (mo 79 f' (by omega)) (fun j hj => mo 81 _ (by omega)) (mo 80 f' (by omega)) (mo 77 f' (by omega)) (mo 76 f' (by omega))
  · rw [cntN_fr (mr 66 (by omega)) (mr 68 (by omega)) 6]; exact hq
def cLim (k : Nat) (a b d : Int32) (h : xH) : xH := if h k 8 ≤ d then xup (xup (xup h k 3 a) k 4 b) k 5 d else xup (xup (xup (xup h k 3 a) k 4 b) k 5 d) k 8 d
def fLim (f : Nat) (a b d : Int32) (m : xH) : xH := xup (xup (xup (xup m 75 f a) 76 f b) 77 f d) 80 f (if m 80 f ≤ d then m 80 f else d)
theorem cLim_o {k : Nat} {x y z : Int32} {h : xH} : ∀ a, a ≠ k → cLim k x y z h a = h a := by
  intro a ha
  unfold cLim
  split
  · rw [xup_row ha, xup_row ha, xup_row ha]
  · rw [xup_row ha, xup_row ha, xup_row ha, xup_row ha]
theorem lim_GG {c : Int32} {f s n k : Nat} {h m : xH} (hf : f < 4) (hn : n < 2 ^ 31) (hk : k ≤ 5) (g : GG c h m) : GG c (cLim (30 + f) (nI s) (nI n) (nI k) h) (fLim f (nI s) (nI n) (nI k) m) := by
  have r : RF h m f := by obtain ⟨gs, N, n, gf, _⟩ := g; exact gf.1.1 f hf
  refine GG_f hf g cLim_o ?_ (fun a b hab => ?_) ?_ (fun N oo => ?_)
  · unfold cLim
    split
    · rw [xup_ne (Or.inr (by decide)), xup_ne (Or.inr (by decide)), xup_ne (Or.inr (by decide))]
    · rw [xup_ne (Or.inr (by decide)), xup_ne (Or.inr (by decide)), xup_ne (Or.inr (by decide)), xup_ne (Or.inr (by decide))]
  · unfold fLim; rw [xup_ne (by omega), xup_ne (by omega), xup_ne (by omega), xup_ne (by omega)]
  · obtain ⟨r1, r2, r3, r4, r5, r6, r7, r8, r9⟩ := r
    have ex : ∀ j, j ≠ 8 → cLim (30 + f) (nI s) (nI n) (nI k) h (30 + f) j = xup (xup (xup h (30 + f) 3 (nI s)) (30 + f) 4 (nI n)) (30 + f) 5 (nI k) (30 + f) j := by
      intro j hj
      unfold cLim
      split
      · rfl
      · rw [xup_ne (Or.inr hj)]
    have em : ∀ a, (a ≠ 75 ∧ a ≠ 76 ∧ a ≠ 77 ∧ a ≠ 80) → fLim f (nI s) (nI n) (nI k) m a = m a := by
      intro a ha
      unfold fLim
      rw [xup_row (by omega), xup_row (by omega), xup_row (by omega), xup_row (by omega)]
    refine ⟨?_, ?_, ?_, ?_, ?_, ?_, ?_, ?_, ?_⟩
    · rw [ex 2 (by decide), em 79 (by decide)]; simpa [xup] using r1
    · rw [ex 3 (by decide)]; simp [xup, fLim]
    · rw [ex 4 (by decide)]; simp [xup, fLim]
    · rw [ex 5 (by decide)]; simp [xup, fLim]
    · rw [ex 7 (by decide), em 78 (by decide)]; simpa [xup] using r5
    · unfold cLim fLim
      rw [r6]
      by_cases q : m 80 f ≤ nI k
      · rw [if_pos q, if_pos q]; simpa [xup] using r6
      · rw [if_neg q, if_neg q]; simp [xup]
    · intro j hj
      rw [cLim_o _ (by omega), em 81 (by decide)]; exact r7 j hj
    · rw [em 79 (by decide), em 82 (by decide)]
      intro j hj
      rw [cLim_o _ (by omega)]; exact r8 j hj
    · rw [em 79 (by decide), em 81 (by decide), em 83 (by decide), ex 6 (by decide)]
      intro hh
      have := r9 hh
      simpa [xup] using this
  · obtain ⟨e, st, h1, h2, h3, h4, h5, ⟨gg, kk, h6, h7, h8, h9⟩, h10⟩ := oo
    refine ⟨e, st, ?_, fun j hj => ?_, h3, h4, h5, ?_, ?_⟩
    · simpa [xup, fLim] using h1
    · simpa [xup, fLim] using h2 j hj
    · by_cases q : m 80 f ≤ nI k
      · exact ⟨gg, k, by simpa [xup, fLim, q] using h6, by simp [xup, fLim], h8, hk⟩
      · exact ⟨k, k, by simp [xup, fLim, q], by simp [xup, fLim], hk, hk⟩
    · rw [show fLim f (nI s) (nI n) (nI k) m 76 f = nI n by simp [xup, fLim]]
      exact nI_pos hn
theorem op_setFile {h : xH} (g : LG h) {p0 p1 p2 p3 : Int32} {J : Int32 → Int32 → xH → Prop} (hJ : Ends3 J) : w_L_setFile p0 p1 p2 p3 h (fun k h1 => w_X6_setFile p0 p1 p2 p3 h1 (fun b h2 => J k b h2)) := by
  unfold w_L_setFile w_X5_setFile w_X6_setFile
  have x1 : (∀ j, j < 4 → ¬ p0 = nI j) → ∀ s, w_X6_setFile_39 p0 p1 p2 p3 (fun b h2 => J 1 b h2) s h := fun hn s => M_isFile (fun j hj e => absurd e (hn j hj)) (fun _ => T0 (M_h1 (T0 (fin_x hJ g (by decide)))))
  refine C_fileAt (fun j hj e => ⟨⟨by omega, by omega⟩, ?_⟩) (fun hn => Or.inl ⟨rfl, M_b (T1 (M_b (T1 (M_b (T1 (x1 hn 1)) (T0 (x1 hn 0)))) (T0 (x1 hn 0)))) (T0 (x1 hn 0))⟩)
  have x2 : w_X6_setFile_39 p0 p1 p2 p3 (fun b h2 => J 2 b h2) 0 h := M_isFile (fun j' hj' e' => T1 (T0 (M_h2 (T0 (fin_x hJ g (by decide)))))) (fun hn => absurd e (hn j hj))
  refine C_isWithin (fun a1 b1 => T1 ?_) (fun q => T0 (Or.inr ⟨rfl, M_n q (T0 x2)⟩))
  refine C_isWithin (fun a2 b2 => T1 ?_) (fun q => T0 (Or.inr ⟨rfl, M_y ⟨a1, b1⟩ (T1 (M_n q (T0 x2)))⟩))
  refine C_isWithin (fun a3 b3 => T1 ?_) (fun q => T0 (Or.inr ⟨rfl, M_y ⟨a1, b1⟩ (T1 (M_y ⟨a2, b2⟩ (T1 (M_n q (T0 x2)))))⟩))
  obtain ⟨c, g⟩ := g
  have a10 : ¬ p1 < 0 := fun z => a1 (by
    rw [Int32.lt_iff_toInt_lt] at z ⊢
    have e0 : (0 : Int32).toInt = 0 := by decide
    have e1 : (200 : Int32).toInt = 200 := by decide
    omega)
  obtain ⟨s, hs, e1⟩ := rng (hi := 5000) (by decide) a10 b1
  obtain ⟨n, hn, e2⟩ := rng (hi := 1000) (by decide) a2 b2
  obtain ⟨k, hk, e3⟩ := rng (hi := 5) (by decide) a3 b3
  have fin : ∀ C, C = cLim (30 + j) p1 p2 p3 h → ∀ h3, h3 = xup C 100 0 (C (30 + j) 7) → w_X6_isIn p1 200 5000 h3 (fun r1 h2 => ((r1 = 0 → w_X6_setFile_38 p0 p1 p2 p3 (fun b h2 => J 0 b h2) h2) ∧ (¬ (r1 = 0) → w_X6_isIn p2 (0 : Int32) (1000 : Int32) h2 (fun r4 h5 => ((r4 = 0 → w_X6_setFile_38 p0 p1 p2 p3 (fun b h2 => J 0 b h2) h5) ∧ (¬ (r4 = 0) → w_X6_isIn p3 (0 : Int32) (5 : Int32) h5 (fun r7 h8 => ((r7 = 0 → w_X6_setFile_38 p0 p1 p2 p3 (fun b h2 => J 0 b h2) h8) ∧ (¬ (r7 = 0) → w_X6_setFile_39 p0 p1 p2 p3 (fun b h2 => J 0 b h2) 1 h8))))))))) := by
    intro C hC h3 e3'
    refine M_y ⟨a1, b1⟩ (T1 (M_y ⟨a2, b2⟩ (T1 (M_y ⟨a3, b3⟩ (T1 (M_isFile (fun j' hj' e' => T1 (T1 (M_h0 (T1 ?_)))) (fun hn => absurd e (hn j hj))))))))
    subst e3'
    subst e
    rw [nI_clamp (by omega)]
    have hin : vp_in (nI j) 4 := vp_in_nI hj (by decide)
    have kc : Kc h C := fun k hk => by rw [hC]; exact cLim_o k (by omega)
    have gb := br (c := c) (r := C (30 + j) 7) g kc
    have fin2 : ∀ Q, Q = fLim j p1 p2 p3 (xup (xup C 100 0 (C (30 + j) 7)) 60 0 0) → J 0 (Q 78 j) Q := by
      rintro Q rfl
      have gl := lim_GG (f := j) (s := s) (n := n) (k := k) hj (by omega) hk gb
      rw [← e1, ← e2, ← e3] at gl
      rw [← hC] at gl
      refine br_e (c := c) (r := C (30 + j) 7) hJ gl ⟨fun a ha => ?_, ?_⟩ ?_
      · unfold fLim; rw [xup_row (by omega), xup_row (by omega), xup_row (by omega), xup_row (by omega)]
      · unfold fLim; rw [xup_row (by omega), xup_row (by omega), xup_row (by omega), xup_row (by omega)]
      · obtain ⟨gs, N, n, gf, _⟩ := gl
        exact (gf.1.1 j hj).2.2.2.2.1
    refine ⟨hin, ?_⟩
    rintro h18 rfl
    refine ⟨hin, ?_⟩
    rintro h20 rfl
    refine ⟨hin, ?_⟩
    rintro h22 rfl
    have e80 : xup (xup (xup (xup (xup C 100 0 (C (30 + j) 7)) 60 0 0) 75 j p1) 76 j p2) 77 j p3 80 j = xup (xup C 100 0 (C (30 + j) 7)) 60 0 0 80 j := by
      rw [xup_row (by decide), xup_row (by decide), xup_row (by decide)]
    rw [e80]
    refine ⟨hin, fun q => ⟨hin, ?_⟩, fun q => ?_⟩
    · unfold w_X6_setFile_120
      rw [nI_clamp (by omega)]
      refine ⟨hin, ?_⟩
      rintro h27 rfl
      exact ⟨hin, fin2 _ (by unfold fLim; rw [if_pos q])⟩
    · unfold w_X6_setFile_120
      rw [nI_clamp (by omega)]
      refine ⟨hin, ?_⟩
      rintro h27 rfl
      exact ⟨hin, fin2 _ (by unfold fLim; rw [if_neg q])⟩
  rintro h1 rfl h2 rfl h3 rfl
  have e8 : xup (xup (xup h (30 + j) 3 p1) (30 + j) 4 p2) (30 + j) 5 p3 (30 + j) 8 = h (30 + j) 8 := by
    rw [xup_ne (Or.inr (by decide)), xup_ne (Or.inr (by decide)), xup_ne (Or.inr (by decide))]
  rw [e8]
  refine ⟨fun q => ?_, fun q => ?_⟩
  · exact fin _ (by unfold cLim; rw [if_pos q])
  · rintro h5 rfl
    exact fin _ (by unfold cLim; rw [if_neg q])
