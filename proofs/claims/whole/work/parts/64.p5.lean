/-! PURE PART 5: a message, whole -/
theorem GS_s {s : Nat} {h h' m m' : xH} (g : GS h m) (hs : s < 6) (ao : ∀ k, k ≠ 10 + s → h' k = h k) (mo : ∀ a b, (b ≠ s ∨ a < 65 ∨ 70 ≤ a) → m' a b = m a b) (rs : RS h' m' s) (lo : ¬ m' 66 s ≤ 0 → ¬ m' 69 s = -1) : GS h' m' := by
  obtain ⟨g1, g2, g3, g4⟩ := g
  refine ⟨?_, fun k hk => ?_, fun k hk => ?_, ?_⟩
  · rw [ao 0 (by omega), mo 60 1 (by omega), mo 60 2 (by omega), mo 60 3 (by omega), mo 60 4 (by omega)]; exact g1
  · by_cases e : k = s
    · subst e; exact rs
    · have r := g2 k hk
      unfold RS at r ⊢
      rw [ao (10 + k) (by omega), mo 65 k (Or.inl e), mo 66 k (Or.inl e), mo 67 k (Or.inl e), mo 68 k (Or.inl e), mo 69 k (Or.inl e)]
      exact r
  · by_cases e : k = s
    · subst e; exact lo
    · rw [mo 66 k (Or.inl e), mo 69 k (Or.inl e)]; exact g3 k hk
  · unfold RLg at g4 ⊢
    rw [ao 6 (by omega), ao 7 (by omega), ao 8 (by omega), mo 60 31 (by omega)]
    refine ⟨g4.1, fun j hj => ?_⟩
    rw [mo 92 j (by omega), mo 93 j (by omega)]
    exact g4.2 j hj
theorem GF_s {c : Int32} {N s : Nat} {h h' m m' : xH} (g : GF c N h m) (hN : N ≤ 400) (hs : s < 6) (ao : ∀ k, k ≠ 10 + s → h' k = h k) (mo : ∀ a b, (b ≠ s ∨ a < 65 ∨ 70 ≤ a) → m' a b = m a b) : GF c N h' m' :=
  GF_fr g hN (ao 4 (by omega)) (ao 5 (by omega)) (fun k h1 h2 => ao k (by omega)) (fun k h1 h2 => by funext b; exact mo k b (by omega)) (by funext b; exact mo 85 b (by omega)) (fun b h1 h2 => mo 60 b (by omega))
theorem up1_o {h : xH} {s j : Nat} {x : Int32} : ∀ k, k ≠ 10 + s → xup h (10 + s) j x k = h k := fun k hk => xup_row hk
theorem up1_m {m : xH} {r s : Nat} {x : Int32} (hr : 65 ≤ r) (hr2 : r < 70) : ∀ a b, (b ≠ s ∨ a < 65 ∨ 70 ≤ a) → xup m r s x a b = m a b := by
  intro a b hab
  by_cases e : a = r
  · subst e; exact xup_ne (Or.inr (by omega))
  · exact xup_ne (Or.inl e)
-- folding
def cFold (k : Nat) (now : Int32) (h : xH) : xH := xup (if h k 2 = 0 then xup h k 3 now else h) k 2 (h k 2 + 1)
theorem C_countRepeat {k : Nat} {now : Int32} {h : xH} {K : Unit → xH → Prop} (hK : K () (cFold k now h)) : w_X4_countRepeat k now h K := by
  refine ⟨fun c => ?_, fun c => ?_⟩
  · rintro h2 rfl h3 rfl
    rw [cFold, if_pos c] at hK
    rw [xup_ne (Or.inr (by decide))]
    exact hK
  · rintro h3 rfl
    rw [cFold, if_neg c] at hK
    exact hK
def fFold (s : Nat) (m : xH) : xH := xup (xup m 67 s (if m 66 s = 0 then m 60 1 else m 67 s)) 66 s (m 66 s + 1)
theorem fold_R {c : Int32} {N s : Nat} {h m : xH} (hs : s < 6) (gs : GS h m) (gf : GF c N h m) (hN : N ≤ 400) (hl : ¬ m 69 s = -1) :
    GS (cFold (10 + s) (h 0 5) h) (fFold s m) ∧ GF c N (cFold (10 + s) (h 0 5) h) (fFold s m) ∧ cntN (fFold s m) 6 ≤ cntN m 6 + 1 ∧ fFold s m 60 31 = m 60 31 := by
  have r := gs.2.1 s hs
  have ao : ∀ k, k ≠ 10 + s → cFold (10 + s) (h 0 5) h k = h k := by
    intro k hk
    unfold cFold
    rw [xup_row hk]
    split
    · exact xup_row hk
    · rfl
  have mo : ∀ a b, (b ≠ s ∨ a < 65 ∨ 70 ≤ a) → fFold s m a b = m a b := by
    intro a b hab
    unfold fFold
    rw [up1_m (by decide) (by decide) a b hab, up1_m (by decide) (by decide) a b hab]
  refine ⟨GS_s gs hs ao mo ?_ ?_, GF_s gf hN hs ao mo, ?_, mo 60 31 (by omega)⟩
  · have ht := gs.1.1
    unfold cFold fFold
    rw [r.2.2.1, ht]
    by_cases e : m 66 s = 0
    · rw [if_pos e, if_pos e]
      exact ⟨by simpa [xup] using r.1, by simpa [xup] using r.2.1, by simp [xup], by simp [xup], by simpa [xup] using r.2.2.2.2.1, by simpa [xup] using r.2.2.2.2.2⟩
    · rw [if_neg e, if_neg e]
      exact ⟨by simpa [xup] using r.1, by simpa [xup] using r.2.1, by simp [xup], by simpa [xup] using r.2.2.2.1, by simpa [xup] using r.2.2.2.2.1, by simpa [xup] using r.2.2.2.2.2⟩
  · intro _
    unfold fFold
    rw [xup_row (by decide), xup_row (by decide)]
    exact hl
  · have h1 := cntN_66 (m := xup m 67 s (if m 66 s = 0 then m 60 1 else m 67 s)) (s := s) (x := m 66 s + 1) 6
    have h2 : cntN (xup m 67 s (if m 66 s = 0 then m 60 1 else m 67 s)) 6 = cntN m 6 := cntN_fr (xup_row (by decide)) (xup_row (by decide)) 6
    rw [if_pos hs, if_pos hs, h2] at h1
    have := ind_le (m 66 s + 1)
    unfold fFold
    omega
-- a drop, a token, the last message
theorem drop_R {c : Int32} {N s : Nat} {h m : xH} (hs : s < 6) (gs : GS h m) (gf : GF c N h m) (hN : N ≤ 400) :
    GS (xup h (10 + s) 4 (h (10 + s) 4 + 1)) (xup m 68 s (m 68 s + 1)) ∧ GF c N (xup h (10 + s) 4 (h (10 + s) 4 + 1)) (xup m 68 s (m 68 s + 1)) ∧ cntN (xup m 68 s (m 68 s + 1)) 6 ≤ cntN m 6 + 1 := by
  have r := gs.2.1 s hs
  refine ⟨GS_s gs hs up1_o (up1_m (by decide) (by decide)) ?_ ?_, GF_s gf hN hs up1_o (up1_m (by decide) (by decide)), ?_⟩
  · rw [r.2.2.2.2.1]
    exact ⟨by simpa [xup] using r.1, by simpa [xup] using r.2.1, by simpa [xup] using r.2.2.1, by simpa [xup] using r.2.2.2.1, by simp [xup], by simpa [xup] using r.2.2.2.2.2⟩
  · rw [xup_row (by decide), xup_row (by decide)]
    exact gs.2.2.1 s hs
  · have h1 := cntN_68 (m := m) (s := s) (x := m 68 s + 1) 6
    rw [if_pos hs, if_pos hs] at h1
    have := ind_le (m 68 s + 1)
    omega
theorem tok_R {c : Int32} {N s : Nat} {h m : xH} {x : Int32} (hs : s < 6) (gs : GS h m) (gf : GF c N h m) (hN : N ≤ 400) :
    GS (xup h (10 + s) 1 x) (xup m 65 s x) ∧ GF c N (xup h (10 + s) 1 x) (xup m 65 s x) ∧ cntN (xup m 65 s x) 6 = cntN m 6 := by
  have r := gs.2.1 s hs
  refine ⟨GS_s gs hs up1_o (up1_m (by decide) (by decide)) ?_ ?_, GF_s gf hN hs up1_o (up1_m (by decide) (by decide)), cntN_fr (xup_row (by decide)) (xup_row (by decide)) 6⟩
  · exact ⟨by simpa [xup] using r.1, by simp [xup], by simpa [xup] using r.2.2.1, by simpa [xup] using r.2.2.2.1, by simpa [xup] using r.2.2.2.2.1, by simpa [xup] using r.2.2.2.2.2⟩
  · rw [xup_row (by decide), xup_row (by decide)]
    exact gs.2.2.1 s hs
def cLast (k : Nat) (a b d e : Int32) (h : xH) : xH := xup (xup (xup (xup h k 5 a) k 6 b) k 7 d) k 8 e
theorem nI_m1 {n : Nat} (h : n < 2 ^ 31) : ¬ nI n = -1 := by
  intro q
  have h1 := nI_toInt h
  rw [q] at h1
  have h2 : (-1 : Int32).toInt = -1 := by decide
  omega
def xits (f v t n : Nat) : Nat := 160000 * f + 20000 * v + 200 * t + n
theorem last_R {c : Int32} {N s f v t n : Nat} {h m : xH} (hs : s < 6) (hf : f < 8) (hv : v < 8) (ht : t < 100) (hn : n < 200) (gs : GS h m) (gf : GF c N h m) (hN : N ≤ 400) :
    GS (cLast (10 + s) (nI f) (nI v) (nI t) (nI (n + 1)) h) (xup m 69 s (nI (xits f v t n))) ∧ GF c N (cLast (10 + s) (nI f) (nI v) (nI t) (nI (n + 1)) h) (xup m 69 s (nI (xits f v t n))) ∧ cntN (xup m 69 s (nI (xits f v t n))) 6 = cntN m 6 := by
  have r := gs.2.1 s hs
  have ao : ∀ k, k ≠ 10 + s → cLast (10 + s) (nI f) (nI v) (nI t) (nI (n + 1)) h k = h k := by
    intro k hk
    unfold cLast
    rw [xup_row hk, xup_row hk, xup_row hk, xup_row hk]
  refine ⟨GS_s gs hs ao (up1_m (by decide) (by decide)) ?_ ?_, GF_s gf hN hs ao (up1_m (by decide) (by decide)), cntN_fr (xup_row (by decide)) (xup_row (by decide)) 6⟩
  · unfold cLast
    refine ⟨by simpa [xup] using r.1, by simpa [xup] using r.2.1, by simpa [xup] using r.2.2.1, by simpa [xup] using r.2.2.2.1, by simpa [xup] using r.2.2.2.2.1, ?_⟩
    right
    refine ⟨f, v, t, n, hf, hv, ht, hn, by simp [xup], by simp [xup], by simp [xup], by simp [xup], by rw [xup_same]; rfl⟩
  · intro _
    rw [xup_same]
    unfold xits
    exact nI_m1 (by omega)
theorem its_e {f v t n : Nat} : ((((160000 : Int32) * nI f) + ((20000 : Int32) * nI v)) + ((200 : Int32) * nI t)) + nI (n + 1) - 1 = nI (xits f v t n) := by
  rw [show (160000 : Int32) * nI f = nI (160000 * f) from pk_mul 160000 f, show (20000 : Int32) * nI v = nI (20000 * v) from pk_mul 20000 v, show (200 : Int32) * nI t = nI (200 * t) from pk_mul 200 t, nI_add, nI_add, nI_add]
  exact nI_pred _
theorem its_R {a b cc d l : Int32} {f v t n : Nat} (r : RLast a b cc d l) (hf : f < 8) (hv : v < 8) (ht : t < 100) (hn : n < 200) : (a = nI f ∧ b = nI v ∧ cc = nI t ∧ d = nI (n + 1)) ↔ l = nI (xits f v t n) := by
  rcases r with ⟨q1, -, -, -, q5⟩ | ⟨f', v', t', n', hf', hv', ht', hn', rfl, rfl, rfl, rfl, rfl⟩
  · constructor
    · rintro ⟨q, -⟩
      rw [q1] at q
      exact absurd q.symm (nI_m1 (by omega))
    · intro q
      rw [q5] at q
      unfold xits at q
      exact absurd q.symm (nI_m1 (by omega))
  · unfold xits
    rw [nI_eq (by omega) (by omega), nI_eq (by omega) (by omega), nI_eq (by omega) (by omega), nI_eq (by omega) (by omega), nI_eq (by omega) (by omega)]
    omega
-- the message
def cMsg (k : Nat) (p0 p1 p2 p3 p4 : Int32) (h : xH) : Int32 × xH :=
  if ¬ h 0 8 = 0 ∧ (h k 5 = p1 ∧ h k 6 = p2 ∧ h k 7 = p3 ∧ h k 8 = p4) then (0, cEnter 0 0 (cFold k (h 0 5) h))
  else
    if cTell k h k 1 = 0 then (1, cEnter 1 0 (xup (cTell k h) k 4 (cTell k h k 4 + 1)))
    else
      let h2 := cLast k p1 p2 p3 p4 (cTellD k (xup (cTell k h) k 1 (cTell k h k 1 - 1)))
      let q := cGo p0 p1 p2 (h2 6 2) p4 6 (0, h2)
      (if q.1 = 0 then 2 else 3, cEnter (if q.1 = 0 then 2 else 3) q.1 q.2)
def fTellA (s : Nat) (m : xH) : xH := if m 66 s ≤ 0 then m else fTellR s m
def fTellB (s : Nat) (m : xH) : xH := if m 68 s ≤ 0 then m else fTellD s m
def fMsg (s : Nat) (p1 p2 p4 its : Int32) (m : xH) : Int32 × xH :=
  if ¬ m 60 4 ≤ 0 ∧ m 69 s = its then (0, fNotes 0 0 (fFold s m))
  else
    if fTellA s m 65 s = 0 then (1, fNotes 1 0 (xup (fTellA s m) 68 s (fTellA s m 68 s + 1)))
    else
      let m2 := xup (fTellB s (xup (fTellA s m) 65 s (fTellA s m 65 s - 1))) 69 s its
      let q := fGo (nI s) p1 p2 (m2 60 31) p4 6 (0, m2)
      (if q.1 = 0 then 2 else 3, fNotes (if q.1 = 0 then 2 else 3) q.1 q.2)
theorem C_isWithin {v lo hi : Int32} {h : xH} {K : Int32 → xH → Prop} (h1 : ¬ v < lo → ¬ hi < v → K 1 h) (h0 : v < lo ∨ hi < v → K 0 h) : w_X5_isWithin v lo hi h K :=
  ⟨fun c => h0 (Or.inl c), fun c => ⟨fun c2 => h0 (Or.inr c2), fun c2 => h1 c c2⟩⟩
theorem nI_rng {n hi : Nat} (h : n ≤ hi) (hh : hi < 2 ^ 31) : ¬ nI n < 0 ∧ ¬ nI hi < nI n := ⟨nI_pos (by omega), nI_nlt h hh⟩
theorem C_msg {s f v t n : Nat} {h : xH} {K : Int32 → xH → Prop} {KX : String → xH → Prop} (hs : s < 6) (hf : f < 8) (hv : v < 8) (ht : t < 100) (hn : n < 200) (h4 : h 6 2 < 400)
    (hK : K (cMsg (10 + s) (nI s) (nI f) (nI v) (nI t) (nI (n + 1)) h).1 (cMsg (10 + s) (nI s) (nI f) (nI v) (nI t) (nI (n + 1)) h).2) : w_X5_message (nI s) (nI f) (nI v) (nI t) (nI (n + 1)) h K KX := by
  have yes : ∀ (q : Int32 → Prop), (∀ r : Int32, r = 1 → q r) → q 1 := fun q z => z 1 rfl
  have p120 : ¬ (¬ h 0 8 = 0 ∧ (h (10 + s) 5 = nI f ∧ h (10 + s) 6 = nI v ∧ h (10 + s) 7 = nI t ∧ h (10 + s) 8 = nI (n + 1))) → w_X5_message_120 (nI s) (nI f) (nI v) (nI t) (nI (n + 1)) K KX (10 + s) h := by
    intro hc
    rw [cMsg, if_neg hc] at hK
    refine C_tell ⟨fun c => ?_, fun c => ?_⟩
    · rw [if_pos c] at hK
      rintro h38 rfl
      exact C_enter hK
    · rw [if_neg c] at hK
      rintro h30 rfl
      refine C_tellD ?_
      rintro h1 rfl h2 rfl h3 rfl h4 rfl
      refine C_route ⟨fun c2 => ?_, fun c2 => ?_⟩
      · have e := hK
        dsimp only at e
        unfold cLast at e
        rw [if_pos c2] at e
        exact C_enter e
      · have e := hK
        dsimp only at e
        unfold cLast at e
        rw [if_neg c2] at e
        exact C_enter e
  refine ⟨fun c => absurd c (nI_pos (by omega)), fun _ => ⟨fun _ => ⟨vp_in_nI hs (by decide), ?_⟩, fun c => absurd (nI_lt hs (by decide)) c⟩⟩
  rw [nI_clamp (by omega)]
  refine ⟨⟨by omega, by omega⟩, C_isWithin (fun _ _ => ⟨fun q => absurd q (by decide), fun _ => ?_⟩) (fun q => absurd q (fun z => by rcases z with z | z; exact nI_pos (by omega) z; exact (nI_rng (n := f) (hi := 7) (by omega) (by decide)).2 z))⟩
  refine C_isWithin (fun _ _ => ⟨fun q => absurd q (by decide), fun _ => ?_⟩) (fun q => absurd q (fun z => by rcases z with z | z; exact nI_pos (by omega) z; exact (nI_rng (n := v) (hi := 7) (by omega) (by decide)).2 z))
  refine C_isWithin (fun _ _ => ⟨fun q => absurd q (by decide), fun _ => ?_⟩) (fun q => absurd q (fun z => by rcases z with z | z; exact nI_pos (by omega) z; exact (nI_rng (n := t) (hi := 99) (by omega) (by decide)).2 z))
  refine C_isWithin (fun _ _ => ⟨fun q => absurd q (by decide), fun _ => ?_⟩) (fun q => absurd q (fun z => by rcases z with z | z; exact nI_nlt (a := n + 1) (b := 1) (by omega) (by omega) z; exact (nI_rng (n := n + 1) (hi := 200) (by omega) (by decide)).2 z))
  refine ⟨fun _ => ⟨fun _ => ⟨fun c => p120 (fun q => q.1 c), fun c => ?_⟩, fun q => absurd rfl q⟩, fun c => absurd h4 c⟩
  refine ⟨fun c5 => ⟨fun c6 => ⟨fun c7 => ⟨fun c8 => ?_, fun c8 => ?_⟩, fun c7 => ?_⟩, fun c6 => ?_⟩, fun c5 => ?_⟩
  · refine ⟨fun q => absurd q (by decide), fun _ => C_countRepeat (C_enter ?_)⟩
    rw [cMsg, if_pos ⟨c, c5, c6, c7, c8⟩] at hK
    exact hK
  · exact ⟨fun _ => p120 (fun q => c8 q.2.2.2.2), fun q => absurd rfl q⟩
  · exact ⟨fun _ => p120 (fun q => c7 q.2.2.2.1), fun q => absurd rfl q⟩
  · exact ⟨fun _ => p120 (fun q => c6 q.2.2.1), fun q => absurd rfl q⟩
  · exact ⟨fun _ => p120 (fun q => c5 q.2.1), fun q => absurd rfl q⟩
/-- behind the telling of repeats -/
theorem tellA_R {c : Int32} {N n s : Nat} {h m : xH} (hs : s < 6) (gs : GS h m) (gf : GF c N h m) (hn : n < 400) (hp : N + cntN m 6 ≤ n) :
    GS (cTell (10 + s) h) (fTellA s m) ∧ fTellA s m 60 31 = m 60 31 ∧ ∃ N', GF c N' (cTell (10 + s) h) (fTellA s m) ∧ N' + cntN (fTellA s m) 6 ≤ n := by
  have r := gs.2.1 s hs
  unfold fTellA
  by_cases e : m 66 s ≤ 0
  · rw [if_pos e]
    have e1 : cTell (10 + s) h = h := by unfold cTell; rw [if_pos (by rw [r.2.2.1]; exact e)]
    rw [e1]
    exact ⟨gs, rfl, N, gf, hp⟩
  · rw [if_neg e]
    obtain ⟨a, b, d, e1⟩ := tell_R hs gf gs (by omega) e
    exact ⟨b, e1, N + 1, a, by omega⟩
theorem tellB_R {c : Int32} {N n s : Nat} {h m : xH} (hs : s < 6) (gs : GS h m) (gf : GF c N h m) (hn : n < 400) (hp : N + cntN m 6 ≤ n) :
    GS (cTellD (10 + s) h) (fTellB s m) ∧ fTellB s m 60 31 = m 60 31 ∧ ∃ N', GF c N' (cTellD (10 + s) h) (fTellB s m) ∧ N' + cntN (fTellB s m) 6 ≤ n := by
  have r := gs.2.1 s hs
  unfold fTellB
  by_cases e : m 68 s ≤ 0
  · rw [if_pos e]
    have e1 : cTellD (10 + s) h = h := by unfold cTellD; rw [if_pos (by rw [r.2.2.2.2.1]; exact e)]
    rw [e1]
    exact ⟨gs, rfl, N, gf, hp⟩
  · rw [if_neg e]
    obtain ⟨a, b, d, e1⟩ := tellD_R hs gf gs (by omega) e
    exact ⟨b, e1, N + 1, a, by omega⟩
theorem msg_R {c : Int32} {s f v t n l : Nat} {h m : xH} (hs : s < 6) (hf : f < 8) (hv : v < 8) (ht : t < 100) (hn : n < 200) (gg : GG c h m) (hl : m 60 31 = nI l) (h4 : l < 400) :
    (cMsg (10 + s) (nI s) (nI f) (nI v) (nI t) (nI (n + 1)) h).1 = (fMsg s (nI f) (nI v) (nI (n + 1)) (nI (xits f v t n)) m).1 ∧ GG c (cMsg (10 + s) (nI s) (nI f) (nI v) (nI t) (nI (n + 1)) h).2 (fMsg s (nI f) (nI v) (nI (n + 1)) (nI (xits f v t n)) m).2 := by
  obtain ⟨gs, N, l', gf, hl', hl400, hp⟩ := gg
  have el : l' = l := (nI_eq (by omega) (by omega)).mp (hl'.symm.trans hl)
  subst el
  have r := gs.2.1 s hs
  have h08 : (¬ h 0 8 = 0 ∧ (h (10 + s) 5 = nI f ∧ h (10 + s) 6 = nI v ∧ h (10 + s) 7 = nI t ∧ h (10 + s) 8 = nI (n + 1))) ↔ (¬ m 60 4 ≤ 0 ∧ m 69 s = nI (xits f v t n)) := by
    rw [its_R r.2.2.2.2.2 hf hv ht hn, gs.1.2.2.2.1]
    have h5 := gs.1.2.2.2.2.1
    have : m 60 4 = 0 ↔ m 60 4 ≤ 0 := by
      constructor
      · intro q; rw [q]; exact Int32.le_refl 0
      · intro q
        rw [Int32.le_iff_toInt_le] at q
        rw [Int32.lt_iff_toInt_lt] at h5
        apply Int32.toInt_inj.mp
        have : (0 : Int32).toInt = 0 := by decide
        omega
    rw [this]
  unfold cMsg fMsg
  by_cases c1 : ¬ m 60 4 ≤ 0 ∧ m 69 s = nI (xits f v t n)
  · rw [if_pos c1, if_pos (h08.mpr c1)]
    obtain ⟨a, b, d, e⟩ := fold_R hs gs gf (by omega) (by rw [c1.2]; unfold xits; exact nI_m1 (by omega))
    exact ⟨rfl, notes_R a b (e.trans hl) h4 (by omega)⟩
  · rw [if_neg c1, if_neg (fun q => c1 (h08.mp q))]
    obtain ⟨gsA, eA, NA, gfA, hpA⟩ := tellA_R hs gs gf h4 hp
    have rA := gsA.2.1 s hs
    rw [rA.2.1]
    by_cases c2 : fTellA s m 65 s = 0
    · rw [if_pos c2, if_pos c2]
      obtain ⟨a, b, d⟩ := drop_R hs gsA gfA (by omega)
      exact ⟨rfl, notes_R a b (by rw [xup_row (by decide), eA]; exact hl) h4 (by omega)⟩
    · rw [if_neg c2, if_neg c2]
      obtain ⟨gsT, gfT, cT⟩ := tok_R (x := fTellA s m 65 s - 1) hs gsA gfA (by omega)
      obtain ⟨gsB, eB, NB, gfB, hpB⟩ := tellB_R hs gsT gfT h4 (by omega)
      obtain ⟨gsL, gfL, cL⟩ := last_R hs hf hv ht hn gsB gfB (by omega)
      have e31 : xup (fTellB s (xup (fTellA s m) 65 s (fTellA s m 65 s - 1))) 69 s (nI (xits f v t n)) 60 31 = nI l' := by
        rw [xup_row (by decide), eB, xup_row (by decide), eA]; exact hl
      dsimp only
      have e62 : cLast (10 + s) (nI f) (nI v) (nI t) (nI (n + 1)) (cTellD (10 + s) (xup (cTell (10 + s) h) (10 + s) 1 (fTellA s m 65 s - 1))) 6 2 = nI l' := by rw [gsL.2.2.2.1]; exact e31
      rw [e62, e31]
      obtain ⟨q1, q2⟩ := go_GF (s := nI s) (f := nI f) (v := nI v) (line := nI l') (len := nI (n + 1)) gfL gsL.1.1 (by omega)
      have q3 := go_GS (s := nI s) (f := nI f) (v := nI v) (line := nI l') (len := nI (n + 1)) gsL
      rw [q1]
      refine ⟨rfl, notes_R q3 q2 ?_ h4 ?_⟩
      · rw [fGo_60 (by decide) (by decide) (by decide) 6]; exact e31
      · rw [cntN_fr (fGo_o (by decide) (by decide) (by decide) 6) (fGo_o (by decide) (by decide) (by decide) 6) 6]
        omega
theorem M_isIn {v lo hi : Int32} {m : xH} {K : Int32 → xH → Prop} (h1 : ¬ v < lo → ¬ hi < v → K 1 m) (h0 : v < lo ∨ hi < v → K 0 m) : w_X6_isIn v lo hi m K :=
  ⟨fun c => h0 (Or.inl c), fun c => ⟨fun c2 => h0 (Or.inr c2), fun c2 => h1 c c2⟩⟩
theorem M_holds {p : Int32} {m : xH} {K : Int32 → xH → Prop} (hK : K (if p = 0 then 1 else 0) (xup m 60 0 p)) : w_X6_holds p m K := by
  rintro h1 rfl
  refine ⟨fun c => ?_, fun c => ?_⟩
  · rwa [if_pos c] at hK
  · rwa [if_neg c] at hK
theorem GG_0 {c x : Int32} {h m : xH} (g : GG c h m) : GG c h (xup m 60 0 x) := by
  obtain ⟨gs, N, n, gf, hn, h4, hp⟩ := g
  refine ⟨GS_fr gs rfl (fun _ _ _ => rfl) rfl rfl rfl (fun k h1 h2 => xup_row (by omega)) (xup_ne (Or.inr (by decide))) (xup_ne (Or.inr (by decide))) (xup_ne (Or.inr (by decide))) (xup_ne (Or.inr (by decide))) (xup_ne (Or.inr (by decide))) (xup_row (by decide)) (xup_row (by decide)), N, n, GF_fr gf (by omega) rfl rfl (fun _ _ _ => rfl) (fun k h1 h2 => xup_row (by omega)) (xup_row (by decide)) (fun b h1 h2 => xup_ne (Or.inr (by omega))), ?_, h4, ?_⟩
  · rw [xup_ne (Or.inr (by decide))]; exact hn
  · rw [cntN_fr (xup_row (by decide)) (xup_row (by decide)) 6]; exact hp
theorem M_msg {c : Int32} {s f v t n l : Nat} {h m : xH} {K : Int32 → xH → Prop} (hs : s < 6) (hf : f < 8) (hv : v < 8) (ht : t < 100) (hn : n < 200) (gg : GG c h m) (hl : m 60 31 = nI l) (h4 : l < 400)
    (hK : K (fMsg s (nI f) (nI v) (nI (n + 1)) (nI (xits f v t n)) (xup m 60 0 0)).1 (fMsg s (nI f) (nI v) (nI (n + 1)) (nI (xits f v t n)) (xup m 60 0 0)).2) : w_X6_message (nI s) (nI f) (nI v) (nI t) (nI (n + 1)) m K := by
  have hin : vp_in (nI s) 6 := vp_in_nI hs (by decide)
  have hcl : (nI s).toNatClampNeg = s := nI_clamp (by omega)
  refine M_isIn (fun _ _ => ?_) (fun q => absurd q (fun z => by rcases z with z | z; exact nI_pos (by omega) z; exact (nI_rng (n := s) (hi := 5) (by omega) (by decide)).2 z))
  refine M_isIn (fun _ _ => ⟨fun q => absurd q (by decide), fun _ => ?_⟩) (fun q => absurd q (fun z => by rcases z with z | z; exact nI_pos (by omega) z; exact (nI_rng (n := f) (hi := 7) (by omega) (by decide)).2 z))
  refine M_isIn (fun _ _ => ⟨fun q => absurd q (by decide), fun _ => ?_⟩) (fun q => absurd q (fun z => by rcases z with z | z; exact nI_pos (by omega) z; exact (nI_rng (n := v) (hi := 7) (by omega) (by decide)).2 z))
  refine M_isIn (fun _ _ => ⟨fun q => absurd q (by decide), fun _ => ?_⟩) (fun q => absurd q (fun z => by rcases z with z | z; exact nI_pos (by omega) z; exact (nI_rng (n := t) (hi := 99) (by omega) (by decide)).2 z))
  refine M_isIn (fun _ _ => ⟨fun q => absurd q (by decide), fun _ => ?_⟩) (fun q => absurd q (fun z => by rcases z with z | z; exact nI_nlt (a := n + 1) (b := 1) (by omega) (by omega) z; exact (nI_rng (n := n + 1) (hi := 200) (by omega) (by decide)).2 z))
  refine ⟨fun q => absurd q (by decide), fun _ => ⟨fun q => absurd q (by decide), fun _ => ⟨fun q => ?_, fun _ => ?_⟩⟩⟩
  · rw [hl] at q
    exact absurd ((nI_eq (by omega) (by decide)).mp (show nI l = nI 400 from q)) (by omega)
  refine M_holds ⟨fun q => absurd q (by decide), fun _ => ?_⟩
  have gg0 := GG_0 (x := 0) gg
  have hl0 : xup m 60 0 0 60 31 = nI l := by rw [xup_ne (Or.inr (by decide))]; exact hl
  generalize xup m 60 0 0 = g at hK gg0 hl0 ⊢
  obtain ⟨gs, N, l', gf, hl', hl400, hp⟩ := gg0
  have el : l' = l := (nI_eq (by omega) (by omega)).mp (hl'.symm.trans hl0)
  subst el
  rintro x21 rfl
  rw [its_e, hcl]
  have p187 : ¬ (¬ g 60 4 ≤ 0 ∧ g 69 s = nI (xits f v t n)) → w_X6_message_187 (nI s) (nI f) (nI v) (nI t) (nI (n + 1)) K (nI (xits f v t n)) g := by
    intro hc
    rw [fMsg, if_neg hc] at hK
    obtain ⟨gsA, eA, NA, gfA, hpA⟩ := tellA_R hs gs gf h4 hp
    have p251 : ∀ (h9 g9 : xH) (N9 : Nat), GS h9 g9 → GF c N9 h9 g9 → N9 ≤ 399 → g9 60 31 = nI l' →
        K (if (fGo (nI s) (nI f) (nI v) (xup g9 69 s (nI (xits f v t n)) 60 31) (nI (n + 1)) 6 (0, xup g9 69 s (nI (xits f v t n)))).1 = 0 then 2 else 3) (fNotes (if (fGo (nI s) (nI f) (nI v) (xup g9 69 s (nI (xits f v t n)) 60 31) (nI (n + 1)) 6 (0, xup g9 69 s (nI (xits f v t n)))).1 = 0 then 2 else 3) (fGo (nI s) (nI f) (nI v) (xup g9 69 s (nI (xits f v t n)) 60 31) (nI (n + 1)) 6 (0, xup g9 69 s (nI (xits f v t n)))).1 (fGo (nI s) (nI f) (nI v) (xup g9 69 s (nI (xits f v t n)) 60 31) (nI (n + 1)) 6 (0, xup g9 69 s (nI (xits f v t n)))).2) →
        w_X6_message_251 (nI s) (nI f) (nI v) (nI t) (nI (n + 1)) K (nI (xits f v t n)) g9 := by
      intro h9 g9 N9 gs9 gf9 hN9 h31 hk
      unfold w_X6_message_251
      rw [hcl]
      refine ⟨hin, ?_⟩
      rintro h47 rfl
      obtain ⟨gsL, gfL, cL⟩ := last_R hs hf hv ht hn gs9 gf9 (by omega)
      have e31 : (fGo (nI s) (nI f) (nI v) (xup g9 69 s (nI (xits f v t n)) 60 31) (nI (n + 1)) 6 (0, xup g9 69 s (nI (xits f v t n)))).2 60 31 = nI l' := by
        rw [fGo_60 (by decide) (by decide) (by decide) 6, xup_row (by decide)]; exact h31
      refine M_goesG gfL gsL.1.1 hN9 ⟨fun c2 => ?_, fun c2 => ?_⟩
      · rw [if_pos c2] at hk
        exact M_notes e31 h4 hk
      · rw [if_neg c2] at hk
        exact M_notes e31 h4 hk
    have p201 : w_X6_message_201 (nI s) (nI f) (nI v) (nI t) (nI (n + 1)) K (nI (xits f v t n)) (fTellA s g) := by
      unfold w_X6_message_201
      rw [hcl]
      refine ⟨hin, fun c2 => ⟨hin, hin, ?_⟩, fun c2 => ⟨hin, hin, ?_⟩⟩
      · rw [if_pos c2] at hK
        rintro h43 rfl
        exact M_notes (by rw [xup_row (by decide), eA]; exact hl0) h4 hK
      · rw [if_neg c2] at hK
        rintro h36 rfl
        obtain ⟨gsT, gfT, cT⟩ := tok_R (x := fTellA s g 65 s - 1) hs gsA gfA (by omega)
        obtain ⟨gsB, eB, NB, gfB, hpB⟩ := tellB_R hs gsT gfT h4 (by omega)
        dsimp only at hK
        have eB31 : fTellB s (xup (fTellA s g) 65 s (fTellA s g 65 s - 1)) 60 31 = nI l' := by rw [eB, xup_row (by decide), eA]; exact hl0
        have k251 := p251 _ _ NB gsB gfB (by omega) eB31 hK
        refine ⟨hin, fun c3 => ?_, fun c3 => ?_⟩
        · unfold fTellB at k251
          rw [if_pos c3] at k251
          exact k251
        · unfold fTellB at k251
          rw [if_neg c3] at k251
          exact M_tellD hs gfT gsT.1.1 (by omega) k251
    unfold w_X6_message_187
    rw [hcl]
    refine ⟨hin, fun c2 => ?_, fun c2 => ?_⟩
    · unfold fTellA at p201
      rw [if_pos c2] at p201
      exact p201
    · unfold fTellA at p201
      rw [if_neg c2] at p201
      exact M_tellR hs gf gs.1.1 (by omega) p201
  refine ⟨fun c4 => p187 (fun q => q.1 c4), fun c4 => ⟨hin, fun c5 => ⟨hin, ?_⟩, fun c5 => p187 (fun q => c5 q.2)⟩⟩
  rw [fMsg, if_pos ⟨c4, c5⟩] at hK
  have p169 : ∀ y : Int32, (y = if g 66 s = 0 then g 60 1 else g 67 s) → w_X6_message_169 (nI s) (nI f) (nI v) (nI t) (nI (n + 1)) K (nI s) y g := by
    intro y hy
    unfold w_X6_message_169
    rw [hcl]
    refine ⟨hin, ?_⟩
    rintro h54 rfl
    refine ⟨hin, hin, ?_⟩
    rintro h57 rfl
    rw [xup_ne (Or.inl (by decide : (66 : Nat) ≠ 67)), hy]
    refine M_notes (n := l') ?_ h4 hK
    rw [xup_row (by decide), xup_row (by decide)]
    exact hl0
  exact ⟨fun c6 => p169 _ (by rw [if_pos c6]), fun c6 => ⟨hin, p169 _ (by rw [if_neg c6])⟩⟩
