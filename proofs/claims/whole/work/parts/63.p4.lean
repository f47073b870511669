/-! PURE PART 4: senders, the ledger, a message -/
def RLast (a b c d l : Int32) : Prop := (a = -1 ∧ b = -1 ∧ c = -1 ∧ d = -1 ∧ l = -1) ∨ ∃ f s t n : Nat, f < 8 ∧ s < 8 ∧ t < 100 ∧ n < 200 ∧ a = nI f ∧ b = nI s ∧ c = nI t ∧ d = nI (n + 1) ∧ l = nI (160000 * f + 20000 * s + 200 * t + n)
def RS (h m : xH) (k : Nat) : Prop := h (10 + k) 0 = nI k ∧ h (10 + k) 1 = m 65 k ∧ h (10 + k) 2 = m 66 k ∧ h (10 + k) 3 = m 67 k ∧ h (10 + k) 4 = m 68 k ∧ RLast (h (10 + k) 5) (h (10 + k) 6) (h (10 + k) 7) (h (10 + k) 8) (m 69 k)
def RLg (h m : xH) : Prop := h 6 2 = m 60 31 ∧ ∀ j, j < (m 60 31).toNatClampNeg → h 7 j = m 92 j ∧ h 8 j = m 93 j
def GS (h m : xH) : Prop := (h 0 5 = m 60 1 ∧ h 0 6 = m 60 2 ∧ h 0 7 = m 60 3 ∧ h 0 8 = m 60 4 ∧ ¬ m 60 4 < 0 ∧ 0 < m 60 3) ∧ (∀ k, k < 6 → RS h m k) ∧ (∀ k, k < 6 → ¬ m 66 k ≤ 0 → ¬ m 69 k = -1) ∧ RLg h m
def GF (c : Int32) (N : Nat) (h m : xH) : Prop := RA c h m ∧ RW h m ∧ RR h m ∧ OR m ∧ (∀ f, f < 4 → OF m f N) ∧ OW m N
theorem GS_fr {h h' m m' : xH} (g : GS h m) (a0 : h' 0 = h 0) (as : ∀ k, 10 ≤ k → k < 16 → h' k = h k) (a6 : h' 6 = h 6) (a7 : h' 7 = h 7) (a8 : h' 8 = h 8) (e : ∀ k, 65 ≤ k → k < 70 → m' k = m k) (e1 : m' 60 1 = m 60 1) (e2 : m' 60 2 = m 60 2) (e3 : m' 60 3 = m 60 3) (e4 : m' 60 4 = m 60 4) (e31 : m' 60 31 = m 60 31) (e92 : m' 92 = m 92) (e93 : m' 93 = m 93) : GS h' m' := by
  obtain ⟨g1, g2, g3, g4⟩ := g
  refine ⟨by rw [a0, e1, e2, e3, e4]; exact g1, fun k hk => ?_, fun k hk => ?_, ?_⟩
  · unfold RS
    rw [as (10 + k) (by omega) (by omega), e 65 (by decide) (by decide), e 66 (by decide) (by decide), e 67 (by decide) (by decide), e 68 (by decide) (by decide), e 69 (by decide) (by decide)]
    exact g2 k hk
  · rw [e 66 (by decide) (by decide), e 69 (by decide) (by decide)]
    exact g3 k hk
  · unfold RLg
    rw [a6, a7, a8, e31, e92, e93]
    exact g4
theorem RA_fr {c : Int32} {h h' m m' : xH} (r : RA c h m) (hO : ∀ f, f < 4 → OF m f 400) (a : ∀ k, 30 ≤ k → k < 54 → h' k = h k) (e : ∀ k, 75 ≤ k → k < 84 → m' k = m k) (e30 : m' 60 30 = m 60 30) : RA c h' m' := by
  refine ⟨fun f hf => ?_, ?_⟩
  · exact RF_fr (r.1 f hf) (hO f hf) (a _ (by omega) (by omega)) (a _ (by omega) (by omega)) (a _ (by omega) (by omega)) (by rw [e 79 (by decide) (by decide)]) (fun j _ => by rw [e 81 (by decide) (by decide)]) (by rw [e 80 (by decide) (by decide)]) (by rw [e 77 (by decide) (by decide)]) (by rw [e 76 (by decide) (by decide)]) (by rw [e 75 (by decide) (by decide)]) (by rw [e 78 (by decide) (by decide)]) (fun j _ => by rw [e 82 (by decide) (by decide)]) (fun j _ => by rw [e 83 (by decide) (by decide)])
  · rw [e30, ← r.2]
    exact xsum_fr (fun k h1 h2 => by rw [a k h1 (by omega)])
theorem GF_fr {c : Int32} {N : Nat} {h h' m m' : xH} (g : GF c N h m) (hN : N ≤ 400) (a4 : h' 4 = h 4) (a5 : h' 5 = h 5) (a : ∀ k, 20 ≤ k → k < 54 → h' k = h k) (e : ∀ k, 70 ≤ k → k < 84 → m' k = m k) (e85 : m' 85 = m 85) (e60 : ∀ b, 24 ≤ b → b < 31 → m' 60 b = m 60 b) : GF c N h' m' := by
  obtain ⟨g1, g2, g3, g4, g5, g6⟩ := g
  refine ⟨RA_fr g1 (fun f hf => OF_mono (g5 f hf) hN) (fun k h1 h2 => a k (by omega) h2) (fun k h1 h2 => e k (by omega) h2) (e60 30 (by decide) (by decide)), RW_fr g2 a4 a5 (e60 26 (by decide) (by decide)) (e60 27 (by decide) (by decide)) (e60 28 (by decide) (by decide)) (e60 29 (by decide) (by decide)) (e60 24 (by decide) (by decide)) e85, RR_fr g3 (fun k h1 h2 => a k h1 (by omega)) (fun k h1 h2 => e k h1 (by omega)), OR_fr g4 (fun k h1 h2 => e k h1 (by omega)), fun f hf => ?_, OW_fr g6 (e60 26 (by decide) (by decide)) (e60 27 (by decide) (by decide)) (e60 28 (by decide) (by decide)) (e60 24 (by decide) (by decide))⟩
  exact OF_fr (g5 f hf) (by rw [e 79 (by decide) (by decide)]) (fun j _ => by rw [e 81 (by decide) (by decide)]) (by rw [e 80 (by decide) (by decide)]) (by rw [e 77 (by decide) (by decide)]) (by rw [e 76 (by decide) (by decide)])
theorem GI_of {c : Int32} {N : Nat} {h m : xH} (g : GF c N h m) (ht : h 0 5 = m 60 1) : GI c N 0 h m := by
  obtain ⟨g1, g2, g3, g4, g5, g6⟩ := g
  refine ⟨g1, g2, g3, g4, ht, fun f hf => ?_, ?_⟩
  · rw [b_0, if_neg (by decide)]; exact g5 f hf
  · rw [b_0, if_neg (by decide)]; exact g6
theorem go_GF {c : Int32} {N : Nat} {s f v line len : Int32} {h m : xH} (g : GF c N h m) (ht : h 0 5 = m 60 1) (hN : N ≤ 399) :
    (cGo s f v line len 6 (0, h)).1 = (fGo s f v line len 6 (0, m)).1 ∧ GF c (N + 1) (cGo s f v line len 6 (0, h)).2 (fGo s f v line len 6 (0, m)).2 := by
  obtain ⟨i1, j1, j2, j3, j4, j5, j6, j7⟩ := GI_go (s := s) (f := f) (v := v) (line := line) (len := len) hN (GI_of g ht) 6 (Nat.le_refl 6)
  exact ⟨i1, j1, j2, j3, j4, fun f' hf' => OF_mono (j6 f' hf') (by split <;> omega), OW_mono j7 (by split <;> omega)⟩
theorem M_goesG {c : Int32} {N : Nat} {s f v line len : Int32} {h m : xH} {K : Int32 → xH → Prop} (g : GF c N h m) (ht : h 0 5 = m 60 1) (hN : N ≤ 399) (hK : K (fGo s f v line len 6 (0, m)).1 (fGo s f v line len 6 (0, m)).2) : w_X6_goes s f v line len m K := by
  refine M_goes (fun r hr _ hb => ?_) hK
  exact GI_room hN (GI_go (s := s) (f := f) (v := v) (line := line) (len := len) hN (GI_of g ht) r (by omega)).2 hr hb
theorem go_GS {s f v line len : Int32} {h m : xH} (g : GS h m) : GS (cGo s f v line len 6 (0, h)).2 (fGo s f v line len 6 (0, m)).2 :=
  GS_fr g (cGo_o (by decide) (by decide) (by decide) 6) (fun k h1 h2 => cGo_o (by omega) (by omega) (by omega) 6) (cGo_o (by decide) (by decide) (by decide) 6) (cGo_o (by decide) (by decide) (by decide) 6) (cGo_o (by decide) (by decide) (by decide) 6) (fun k h1 h2 => fGo_o (by omega) (by omega) (by omega) 6) (fGo_60 (by decide) (by decide) (by decide) 6) (fGo_60 (by decide) (by decide) (by decide) 6) (fGo_60 (by decide) (by decide) (by decide) 6) (fGo_60 (by decide) (by decide) (by decide) 6) (fGo_60 (by decide) (by decide) (by decide) 6) (fGo_o (by decide) (by decide) (by decide) 6) (fGo_o (by decide) (by decide) (by decide) 6)
-- how much is untold
def ind (x : Int32) : Nat := if x ≤ 0 then 0 else 1
theorem ind_le (x : Int32) : ind x ≤ 1 := by unfold ind; split <;> omega
def cntN (m : xH) : Nat → Nat
  | 0 => 0
  | n + 1 => cntN m n + ind (m 66 n) + ind (m 68 n)
theorem cntN_fr {m m' : xH} (e66 : m' 66 = m 66) (e68 : m' 68 = m 68) : ∀ n, cntN m' n = cntN m n := by
  intro n
  induction n with
  | zero => rfl
  | succ n ih => simp only [cntN, ih, e66, e68]
theorem cntN_66 {m : xH} {s : Nat} {x : Int32} : ∀ n, cntN (xup m 66 s x) n + (if s < n then ind (m 66 s) else 0) = cntN m n + (if s < n then ind x else 0) := by
  intro n
  induction n with
  | zero => simp [cntN]
  | succ n ih =>
    simp only [cntN]
    have e68 : xup m 66 s x 68 n = m 68 n := xup_ne (Or.inl (by decide))
    rw [e68]
    by_cases e : n = s
    · subst e
      rw [xup_same]
      rw [if_neg (by omega), if_neg (by omega)] at ih
      rw [if_pos (by omega), if_pos (by omega)]
      omega
    · rw [xup_ne (Or.inr e)]
      by_cases hs : s < n
      · rw [if_pos hs, if_pos hs] at ih
        rw [if_pos (by omega), if_pos (by omega)]
        omega
      · rw [if_neg hs, if_neg hs] at ih
        rw [if_neg (by omega), if_neg (by omega)]
        omega
theorem cntN_68 {m : xH} {s : Nat} {x : Int32} : ∀ n, cntN (xup m 68 s x) n + (if s < n then ind (m 68 s) else 0) = cntN m n + (if s < n then ind x else 0) := by
  intro n
  induction n with
  | zero => simp [cntN]
  | succ n ih =>
    simp only [cntN]
    have e66 : xup m 68 s x 66 n = m 66 n := xup_ne (Or.inl (by decide))
    rw [e66]
    by_cases e : n = s
    · subst e
      rw [xup_same]
      rw [if_neg (by omega), if_neg (by omega)] at ih
      rw [if_pos (by omega), if_pos (by omega)]
      omega
    · rw [xup_ne (Or.inr e)]
      by_cases hs : s < n
      · rw [if_pos hs, if_pos hs] at ih
        rw [if_pos (by omega), if_pos (by omega)]
        omega
      · rw [if_neg hs, if_neg hs] at ih
        rw [if_neg (by omega), if_neg (by omega)]
        omega
-- telling repeats
def cTell (k : Nat) (h : xH) : xH := if h k 2 ≤ 0 then h else xup (cGo (h k 0) (h k 5) (h k 6) (10000 * (h k 0 + 1) + h k 2) 15 6 (0, h)).2 k 2 0
theorem C_tell {k : Nat} {h : xH} {K : Unit → xH → Prop} (hK : K () (cTell k h)) : w_X5_tellRepeats k h K := by
  refine ⟨fun c => ?_, fun c => ?_⟩
  · rw [cTell, if_pos c] at hK; exact hK
  · rw [cTell, if_neg c] at hK
    rintro x2 rfl
    refine C_route ?_
    rintro h5 rfl
    exact hK
def fTellR (s : Nat) (m : xH) : xH := (fGo (nI s) (m 69 s / 160000) (m 69 s / 20000 - m 69 s / 20000 / 8 * 8) (10000 * (nI s + 1) + m 66 s) 15 6 (0, xup m 66 s 0)).2
theorem GF_66 {c : Int32} {N s : Nat} {x : Int32} {h m : xH} (g : GF c N h m) (hN : N ≤ 400) : GF c N h (xup m 66 s x) :=
  GF_fr g hN rfl rfl (fun _ _ _ => rfl) (fun k h1 h2 => xup_row (by omega)) (xup_row (by decide)) (fun b _ _ => by rw [xup_row (by decide)])
theorem GF_68 {c : Int32} {N s : Nat} {x : Int32} {h m : xH} (g : GF c N h m) (hN : N ≤ 400) : GF c N h (xup m 68 s x) :=
  GF_fr g hN rfl rfl (fun _ _ _ => rfl) (fun k h1 h2 => xup_row (by omega)) (xup_row (by decide)) (fun b _ _ => by rw [xup_row (by decide)])
theorem M_tellR {c : Int32} {N s : Nat} {h m : xH} {K : Unit → xH → Prop} (hs : s < 6) (g : GF c N h m) (ht : h 0 5 = m 60 1) (hN : N ≤ 399) (hK : K () (fTellR s m)) : w_X6_tellsRepeats (nI s) m K := by
  have hin : vp_in (nI s) 6 := vp_in_nI hs (by decide)
  have hcl : (nI s).toNatClampNeg = s := nI_clamp (by omega)
  unfold w_X6_tellsRepeats
  rw [hcl]
  refine ⟨hin, ?_⟩
  rintro x2 rfl
  refine ⟨hin, ?_⟩
  rintro h4 rfl
  refine ⟨hin, hin, ?_⟩
  rw [xup_ne (Or.inl (by decide : (69 : Nat) ≠ 66))]
  exact M_goesG (GF_66 g (by omega)) (by rw [xup_row (by decide)]; exact ht) hN hK
theorem last_dec {a b c d l : Int32} (r : RLast a b c d l) (hl : ¬ l = -1) : a = l / 160000 ∧ b = l / 20000 - l / 20000 / 8 * 8 := by
  rcases r with ⟨-, -, -, -, q⟩ | ⟨f, s, t, n, hf, hs, ht, hn, rfl, rfl, rfl, rfl, rfl⟩
  · exact absurd q hl
  · constructor
    · rw [show (160000 : Int32) = nI 160000 from rfl, pk_div (by omega) (by decide) (by decide)]
      congr 1; omega
    · rw [show (20000 : Int32) = nI 20000 from rfl, pk_div (by omega) (by decide) (by decide), show (8 : Int32) = nI 8 from rfl, pk_rem (by omega) (by decide) (by decide)]
      congr 1; omega
theorem ind_pos {x : Int32} (h : ¬ x ≤ 0) : ind x = 1 := by unfold ind; rw [if_neg h]
theorem ind_0 : ind 0 = 0 := by decide
theorem tell_R {c : Int32} {N s : Nat} {h m : xH} (hs : s < 6) (g : GF c N h m) (gs : GS h m) (hN : N ≤ 399) (hm : ¬ m 66 s ≤ 0) :
    GF c (N + 1) (cTell (10 + s) h) (fTellR s m) ∧ GS (cTell (10 + s) h) (fTellR s m) ∧ cntN (fTellR s m) 6 + 1 = cntN m 6 ∧ fTellR s m 60 31 = m 60 31 := by
  obtain ⟨g1, g2, g3, g4⟩ := id gs
  obtain ⟨q0, q1, q2, q3, q4, q5⟩ := g2 s hs
  obtain ⟨d1, d2⟩ := last_dec q5 (g3 s hs hm)
  have e1 : cTell (10 + s) h = xup (cGo (nI s) (m 69 s / 160000) (m 69 s / 20000 - m 69 s / 20000 / 8 * 8) (10000 * (nI s + 1) + m 66 s) 15 6 (0, h)).2 (10 + s) 2 0 := by
    unfold cTell
    rw [if_neg (by rw [q2]; exact hm), q0, d1, d2, q2]
  have gf1 : GF c N h (xup m 66 s 0) := GF_66 g (by omega)
  have ht1 : h 0 5 = xup m 66 s 0 60 1 := by rw [xup_row (by decide)]; exact g1.1
  obtain ⟨-, i2⟩ := go_GF (s := nI s) (f := m 69 s / 160000) (v := m 69 s / 20000 - m 69 s / 20000 / 8 * 8) (line := 10000 * (nI s + 1) + m 66 s) (len := 15) gf1 ht1 hN
  -- the world of senders with the count gone
  have gs1 : GS (xup h (10 + s) 2 0) (xup m 66 s 0) := by
    refine ⟨?_, fun k hk => ?_, fun k hk => ?_, ?_⟩
    · rw [xup_row (by omega), xup_row (by decide)]; exact g1
    · have r := g2 k hk
      by_cases e : k = s
      · subst e
        exact ⟨by simpa [xup] using r.1, by simpa [xup] using r.2.1, by simp [xup], by simpa [xup] using r.2.2.2.1, by simpa [xup] using r.2.2.2.2.1, by simpa [xup] using r.2.2.2.2.2⟩
      · unfold RS
        rw [xup_row (by omega), xup_ne (Or.inl (by decide)), xup_ne (Or.inr e), xup_ne (Or.inl (by decide)), xup_ne (Or.inl (by decide)), xup_ne (Or.inl (by decide))]
        exact r
    · by_cases e : k = s
      · subst e
        rw [xup_same]
        exact fun q => absurd (Int32.le_refl 0) q
      · rw [xup_ne (Or.inr e), xup_ne (Or.inl (by decide))]
        exact g3 k hk
    · unfold RLg
      rw [xup_row (by omega), xup_row (by omega), xup_row (by omega), xup_row (by omega), xup_row (by omega), xup_row (by omega)]
      exact g4
  rw [e1]
  refine ⟨?_, ?_, ?_, ?_⟩
  · refine GF_fr i2 (by omega) (xup_row (by omega)) (xup_row (by omega)) (fun k h1 h2 => xup_row (by omega)) (fun _ _ _ => rfl) rfl (fun _ _ _ => rfl)
  · have gx := GS_fr (h' := xup (cGo (nI s) (m 69 s / 160000) (m 69 s / 20000 - m 69 s / 20000 / 8 * 8) (10000 * (nI s + 1) + m 66 s) 15 6 (0, h)).2 (10 + s) 2 0) (m' := fTellR s m) gs1
      (by rw [xup_row (by omega), xup_row (by omega)]; exact cGo_o (by decide) (by decide) (by decide) 6)
      (fun k h1 h2 => by
        funext b
        have := congrFun (cGo_o (s := nI s) (f := m 69 s / 160000) (v := m 69 s / 20000 - m 69 s / 20000 / 8 * 8) (line := 10000 * (nI s + 1) + m 66 s) (len := 15) (st := 0) (h := h) (a := k) (by omega) (by omega) (by omega) 6) b
        simp only [xup, this])
      (by rw [xup_row (by omega), xup_row (by omega)]; exact cGo_o (by decide) (by decide) (by decide) 6)
      (by rw [xup_row (by omega), xup_row (by omega)]; exact cGo_o (by decide) (by decide) (by decide) 6)
      (by rw [xup_row (by omega), xup_row (by omega)]; exact cGo_o (by decide) (by decide) (by decide) 6)
      (fun k h1 h2 => fGo_o (by omega) (by omega) (by omega) 6) (fGo_60 (by decide) (by decide) (by decide) 6) (fGo_60 (by decide) (by decide) (by decide) 6) (fGo_60 (by decide) (by decide) (by decide) 6) (fGo_60 (by decide) (by decide) (by decide) 6) (fGo_60 (by decide) (by decide) (by decide) 6) (fGo_o (by decide) (by decide) (by decide) 6) (fGo_o (by decide) (by decide) (by decide) 6)
    exact gx
  · have h1 : cntN (fTellR s m) 6 = cntN (xup m 66 s 0) 6 := cntN_fr (fGo_o (by decide) (by decide) (by decide) 6) (fGo_o (by decide) (by decide) (by decide) 6) 6
    have h2 := cntN_66 (m := m) (s := s) (x := 0) 6
    rw [if_pos hs, if_pos hs, ind_pos hm, ind_0] at h2
    omega
  · show (fGo _ _ _ _ _ 6 (0, xup m 66 s 0)).2 60 31 = _
    rw [fGo_60 (by decide) (by decide) (by decide) 6, xup_row (by decide)]
-- telling drops
def cTellD (k : Nat) (h : xH) : xH := if h k 4 ≤ 0 then h else xup (cGo (h k 0) 5 4 (100000 * (h k 0 + 1) + h k 4) 20 6 (0, h)).2 k 4 0
theorem C_tellD {k : Nat} {h : xH} {K : Unit → xH → Prop} (hK : K () (cTellD k h)) : w_X5_tellDrops k h K := by
  refine ⟨fun c => ?_, fun c => ?_⟩
  · rw [cTellD, if_pos c] at hK; exact hK
  · rw [cTellD, if_neg c] at hK
    rintro x2 rfl
    refine C_route ?_
    rintro h5 rfl
    exact hK
def fTellD (s : Nat) (m : xH) : xH := (fGo (nI s) 5 4 (100000 * (nI s + 1) + m 68 s) 20 6 (0, xup m 68 s 0)).2
theorem M_tellD {c : Int32} {N s : Nat} {h m : xH} {K : Unit → xH → Prop} (hs : s < 6) (g : GF c N h m) (ht : h 0 5 = m 60 1) (hN : N ≤ 399) (hK : K () (fTellD s m)) : w_X6_tellsDrops (nI s) m K := by
  have hin : vp_in (nI s) 6 := vp_in_nI hs (by decide)
  have hcl : (nI s).toNatClampNeg = s := nI_clamp (by omega)
  unfold w_X6_tellsDrops
  rw [hcl]
  refine ⟨hin, ?_⟩
  rintro x2 rfl
  refine ⟨hin, ?_⟩
  rintro h4 rfl
  exact M_goesG (GF_68 g (by omega)) (by rw [xup_row (by decide)]; exact ht) hN hK
theorem tellD_R {c : Int32} {N s : Nat} {h m : xH} (hs : s < 6) (g : GF c N h m) (gs : GS h m) (hN : N ≤ 399) (hm : ¬ m 68 s ≤ 0) :
    GF c (N + 1) (cTellD (10 + s) h) (fTellD s m) ∧ GS (cTellD (10 + s) h) (fTellD s m) ∧ cntN (fTellD s m) 6 + 1 = cntN m 6 ∧ fTellD s m 60 31 = m 60 31 := by
  obtain ⟨g1, g2, g3, g4⟩ := id gs
  obtain ⟨q0, q1, q2, q3, q4, q5⟩ := g2 s hs
  have e1 : cTellD (10 + s) h = xup (cGo (nI s) 5 4 (100000 * (nI s + 1) + m 68 s) 20 6 (0, h)).2 (10 + s) 4 0 := by
    unfold cTellD
    rw [if_neg (by rw [q4]; exact hm), q0, q4]
  have gf1 : GF c N h (xup m 68 s 0) := GF_68 g (by omega)
  have ht1 : h 0 5 = xup m 68 s 0 60 1 := by rw [xup_row (by decide)]; exact g1.1
  obtain ⟨-, i2⟩ := go_GF (s := nI s) (f := 5) (v := 4) (line := 100000 * (nI s + 1) + m 68 s) (len := 20) gf1 ht1 hN
  have gs1 : GS (xup h (10 + s) 4 0) (xup m 68 s 0) := by
    refine ⟨?_, fun k hk => ?_, fun k hk => ?_, ?_⟩
    · rw [xup_row (by omega), xup_row (by decide)]; exact g1
    · have r := g2 k hk
      by_cases e : k = s
      · subst e
        exact ⟨by simpa [xup] using r.1, by simpa [xup] using r.2.1, by simpa [xup] using r.2.2.1, by simpa [xup] using r.2.2.2.1, by simp [xup], by simpa [xup] using r.2.2.2.2.2⟩
      · unfold RS
        rw [xup_row (by omega), xup_ne (Or.inl (by decide)), xup_ne (Or.inl (by decide)), xup_ne (Or.inl (by decide)), xup_ne (Or.inr e), xup_ne (Or.inl (by decide))]
        exact r
    · rw [xup_row (by decide), xup_row (by decide)]
      exact g3 k hk
    · unfold RLg
      rw [xup_row (by omega), xup_row (by omega), xup_row (by omega), xup_row (by omega), xup_row (by omega), xup_row (by omega)]
      exact g4
  rw [e1]
  refine ⟨?_, ?_, ?_, ?_⟩
  · refine GF_fr i2 (by omega) (xup_row (by omega)) (xup_row (by omega)) (fun k h1 h2 => xup_row (by omega)) (fun _ _ _ => rfl) rfl (fun _ _ _ => rfl)
  · have gx := GS_fr (h' := xup (cGo (nI s) 5 4 (100000 * (nI s + 1) + m 68 s) 20 6 (0, h)).2 (10 + s) 4 0) (m' := fTellD s m) gs1
      (by rw [xup_row (by omega), xup_row (by omega)]; exact cGo_o (by decide) (by decide) (by decide) 6)
      (fun k h1 h2 => by
        funext b
        have := congrFun (cGo_o (s := nI s) (f := 5) (v := 4) (line := 100000 * (nI s + 1) + m 68 s) (len := 20) (st := 0) (h := h) (a := k) (by omega) (by omega) (by omega) 6) b
        simp only [xup, this])
      (by rw [xup_row (by omega), xup_row (by omega)]; exact cGo_o (by decide) (by decide) (by decide) 6)
      (by rw [xup_row (by omega), xup_row (by omega)]; exact cGo_o (by decide) (by decide) (by decide) 6)
      (by rw [xup_row (by omega), xup_row (by omega)]; exact cGo_o (by decide) (by decide) (by decide) 6)
      (fun k h1 h2 => fGo_o (by omega) (by omega) (by omega) 6) (fGo_60 (by decide) (by decide) (by decide) 6) (fGo_60 (by decide) (by decide) (by decide) 6) (fGo_60 (by decide) (by decide) (by decide) 6) (fGo_60 (by decide) (by decide) (by decide) 6) (fGo_60 (by decide) (by decide) (by decide) 6) (fGo_o (by decide) (by decide) (by decide) 6) (fGo_o (by decide) (by decide) (by decide) 6)
    exact gx
  · have h1 : cntN (fTellD s m) 6 = cntN (xup m 68 s 0) 6 := cntN_fr (fGo_o (by decide) (by decide) (by decide) 6) (fGo_o (by decide) (by decide) (by decide) 6) 6
    have h2 := cntN_68 (m := m) (s := s) (x := 0) 6
    rw [if_pos hs, if_pos hs, ind_pos hm, ind_0] at h2
    omega
  · show (fGo _ _ _ _ _ 6 (0, xup m 68 s 0)).2 60 31 = _
    rw [fGo_60 (by decide) (by decide) (by decide) 6, xup_row (by decide)]
-- the ledger
def cEnter (fate set : Int32) (h : xH) : xH := if h 6 2 < 0 ∨ 400 ≤ h 6 2 then h else xup (xup (xup h 7 (h 6 2).toNatClampNeg fate) 8 (h 6 2).toNatClampNeg set) 6 2 (h 6 2 + 1)
theorem C_enter {fate set : Int32} {h : xH} {K : Int32 → xH → Prop} (hK : K fate (cEnter fate set h)) : w_X1_enter fate set h K := by
  refine ⟨fun c => ?_, fun c => ⟨fun c2 => ?_, fun c2 => ?_⟩⟩
  · rwa [cEnter, if_pos (Or.inl c)] at hK
  · rwa [cEnter, if_pos (Or.inr c2)] at hK
  · rw [cEnter, if_neg (by intro q; rcases q with q | q; exact c q; exact c2 q)] at hK
    have hin : vp_in (h 6 2) 400 := by
      obtain ⟨j, hj, e⟩ := nI_of c
      rw [e] at c2 ⊢
      exact vp_in_nI (by rcases Nat.lt_or_ge j 400 with q | q; exact q; exact absurd (nI_le q hj) c2) (by decide)
    refine ⟨hin, ?_⟩
    rintro h4 rfl
    rw [xup_ne (Or.inl (by decide : (6 : Nat) ≠ 7))]
    refine ⟨hin, ?_⟩
    rintro h6 rfl h7 rfl
    rw [xup_ne (Or.inl (by decide : (6 : Nat) ≠ 8)), xup_ne (Or.inl (by decide : (6 : Nat) ≠ 7))]
    exact hK
def fNotes (fate set : Int32) (m : xH) : xH := xup (xup (xup m 92 (m 60 31).toNatClampNeg fate) 93 (m 60 31).toNatClampNeg set) 60 31 (m 60 31 + 1)
theorem M_notes {fate set : Int32} {m : xH} {n : Nat} {K : Int32 → xH → Prop} (hn : m 60 31 = nI n) (h4 : n < 400) (hK : K fate (fNotes fate set m)) : w_X6_notes fate set m K := by
  have hin : vp_in (m 60 31) 400 := by rw [hn]; exact vp_in_nI h4 (by decide)
  refine ⟨hin, ?_⟩
  rintro h2 rfl
  rw [xup_ne (Or.inl (by decide : (60 : Nat) ≠ 92))]
  refine ⟨hin, ?_⟩
  rintro h4 rfl h5 rfl
  rw [xup_ne (Or.inl (by decide : (60 : Nat) ≠ 93)), xup_ne (Or.inl (by decide : (60 : Nat) ≠ 92))]
  exact hK
/-- all that holds between two calls: class h, reference m -/
def GG (c : Int32) (h m : xH) : Prop := GS h m ∧ ∃ N n : Nat, GF c N h m ∧ m 60 31 = nI n ∧ n ≤ 400 ∧ N + cntN m 6 ≤ n
theorem notes_R {c : Int32} {N n : Nat} {fate set : Int32} {h m : xH} (gs : GS h m) (gf : GF c N h m) (hn : m 60 31 = nI n) (h4 : n < 400) (hp : N + cntN m 6 ≤ n + 1) : GG c (cEnter fate set h) (fNotes fate set m) := by
  obtain ⟨g1, g2, g3, g4, g5⟩ := id gs
  have eh : h 6 2 = nI n := by rw [g4]; exact hn
  have hcl : (nI n).toNatClampNeg = n := nI_clamp (by omega)
  have e1 : cEnter fate set h = xup (xup (xup h 7 n fate) 8 n set) 6 2 (nI n + 1) := by
    unfold cEnter
    rw [eh, hcl, if_neg]
    intro q
    rcases q with q | q
    · exact nI_pos (by omega) q
    · exact absurd ((nI_leI (by decide) (by omega)).mp (show nI 400 ≤ nI n from q)) (by omega)
  have e2 : fNotes fate set m = xup (xup (xup m 92 n fate) 93 n set) 60 31 (nI n + 1) := by
    unfold fNotes
    rw [hn, hcl]
  rw [e1, e2]
  refine ⟨⟨?_, fun k hk => ?_, fun k hk => ?_, ?_⟩, N, n + 1, ?_, ?_, by omega, ?_⟩
  · simpa [xup] using g1
  · unfold RS
    rw [xup_row (by omega), xup_row (by omega), xup_row (by omega)]
    rw [xup_row (by decide), xup_row (by decide), xup_row (by decide), xup_row (by decide), xup_row (by decide), xup_row (by decide), xup_row (by decide), xup_row (by decide), xup_row (by decide), xup_row (by decide), xup_row (by decide), xup_row (by decide), xup_row (by decide), xup_row (by decide), xup_row (by decide)]
    exact g2 k hk
  · rw [xup_row (by decide), xup_row (by decide), xup_row (by decide), xup_row (by decide), xup_row (by decide), xup_row (by decide)]
    exact g3 k hk
  · refine ⟨by rw [xup_same, xup_same], fun j hj => ?_⟩
    rw [xup_same, nI_1, nI_clamp (by omega)] at hj
    by_cases e : j = n
    · subst e
      simp [xup]
    · have := g5 j (by rw [hn, hcl]; omega)
      simpa [xup, e] using this
  · exact GF_fr gf (by have := OF_len (gf.2.2.2.2.1 0 (by decide)) ; omega) (by rw [xup_row (by decide), xup_row (by decide), xup_row (by decide)]) (by rw [xup_row (by decide), xup_row (by decide), xup_row (by decide)]) (fun k h1 h2 => by rw [xup_row (by omega), xup_row (by omega), xup_row (by omega)]) (fun k h1 h2 => by rw [xup_row (by omega), xup_row (by omega), xup_row (by omega)]) (by rw [xup_row (by decide), xup_row (by decide), xup_row (by decide)]) (fun b h1 h2 => by rw [xup_ne (Or.inr (by omega)), xup_row (by decide), xup_row (by decide)])
  · rw [xup_same, nI_1]
  · rw [cntN_fr (m := m) (by rw [xup_row (by decide), xup_row (by decide), xup_row (by decide)]) (by rw [xup_row (by decide), xup_row (by decide), xup_row (by decide)])]
    omega
