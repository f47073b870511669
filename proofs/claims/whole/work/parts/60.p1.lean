/-! PURE PART 1: files. cXx: what the class does; fXx: what the reference does; both on xH -/
theorem x32_0 : (0 : Int32).toNatClampNeg = 0 := by decide
theorem xin0 {n : Nat} (h : 0 < n) (hn : n < 2 ^ 31) : vp_in 0 n := by
  have h1 := vp_in_nI (n := 0) (N := n) h hn
  rwa [nI_0] at h1
def cRot (k : Nat) (h : xH) : xH := fun a b =>
  if a = k + 20 then (if b = 0 then h k 2 else if b ≤ 5 then h (k + 20) (b - 1) else h (k + 20) b)
  else if a = k then (if b = 7 then 0 else if b = 9 then h k 9 + 1 else if b = 8 then (if h k 5 ≤ h k 8 then h k 8 else h k 8 + 1) else h k b)
  else h a b
def shc (k d : Nat) (h : xH) : xH := fun a b => if a = k + 20 ∧ d < b ∧ b ≤ 5 then h (k + 20) (b - 1) else h a b
theorem shc_5 {k : Nat} {h : xH} : shc k 5 h = h := by
  funext a b
  simp only [shc]
  rw [if_neg (by omega)]
theorem shc_s {k d : Nat} {h : xH} (hd : d < 5) : xup (shc k (d + 1) h) (k + 20) (d + 1) (shc k (d + 1) h (k + 20) d) = shc k d h := by
  funext a b
  simp only [xup, shc]
  grind
theorem cRot_e {k : Nat} {h : xH} : (if (xup (xup (xup (shc k 0 h) (k + 20) 0 (shc k 0 h k 2)) k 7 0) k 9 (xup (xup (shc k 0 h) (k + 20) 0 (shc k 0 h k 2)) k 7 0 k 9 + 1)) k 5 ≤ (xup (xup (xup (shc k 0 h) (k + 20) 0 (shc k 0 h k 2)) k 7 0) k 9 (xup (xup (shc k 0 h) (k + 20) 0 (shc k 0 h k 2)) k 7 0 k 9 + 1)) k 8 then (xup (xup (xup (shc k 0 h) (k + 20) 0 (shc k 0 h k 2)) k 7 0) k 9 (xup (xup (shc k 0 h) (k + 20) 0 (shc k 0 h k 2)) k 7 0 k 9 + 1)) else xup (xup (xup (xup (shc k 0 h) (k + 20) 0 (shc k 0 h k 2)) k 7 0) k 9 (xup (xup (shc k 0 h) (k + 20) 0 (shc k 0 h k 2)) k 7 0 k 9 + 1)) k 8 ((xup (xup (xup (shc k 0 h) (k + 20) 0 (shc k 0 h k 2)) k 7 0) k 9 (xup (xup (shc k 0 h) (k + 20) 0 (shc k 0 h k 2)) k 7 0 k 9 + 1)) k 8 + 1)) = cRot k h := by
  funext a b
  have e1 : ∀ j, shc k 0 h k j = h k j := fun j => by simp only [shc]; rw [if_neg (by omega)]
  by_cases hc : h k 5 ≤ h k 8
  · rw [if_pos (by simpa [xup, e1] using hc)]
    simp only [xup, cRot, e1]
    simp only [shc]
    grind
  · rw [if_neg (by simpa [xup, e1] using hc)]
    simp only [xup, cRot, e1]
    simp only [shc]
    grind
theorem C_turn {k : Nat} {h : xH} {K : Unit → xH → Prop} (hK : K () (cRot k h)) : w_X2_turnOver k h K := by
  have loop : ∀ d, d ≤ 5 → w_X2_turnOver_2 k K (d + 1) (nI d) (shc k d h) := by
    intro d
    induction d with
    | zero =>
      intro _
      rw [w_X2_turnOver_2_s]
      refine ⟨fun _ => ⟨xin0 (by decide) (by decide), ?_⟩, fun c => absurd (nI_le (Nat.le_refl 0) (by decide)) c⟩
      rw [x32_0]
      rintro h3 rfl h4 rfl h5 rfl
      refine ⟨fun c => ?_, fun c => ?_⟩
      · have e := cRot_e (k := k) (h := h)
        rw [if_pos c] at e
        rw [e]; exact hK
      · rintro h7 rfl
        have e := cRot_e (k := k) (h := h)
        rw [if_neg c] at e
        rw [e]; exact hK
    | succ d ih =>
      intro hd
      rw [w_X2_turnOver_2_s]
      refine ⟨fun c => absurd c (nI_nle (by omega) (by omega)), fun _ => ?_⟩
      rw [nI_pred, nI_clamp (by omega), nI_clamp (by omega), pk_m1]
      refine ⟨vp_in_nI (by omega) (by decide), vp_in_nI (by omega) (by decide), ?_⟩
      rintro h10 rfl x rfl
      rw [shc_s (by omega)]
      exact ih (by omega)
  refine ⟨6, ?_⟩
  have := loop 5 (Nat.le_refl 5)
  rw [shc_5] at this
  exact this
theorem C_isEmpty {k : Nat} {h : xH} {K : Int32 → xH → Prop} (hK : K (if h k 2 = h (k + 20) 0 then 1 else 0) h) : w_X2_isEmpty k h K := by
  refine ⟨xin0 (by decide) (by decide), ?_⟩
  rw [x32_0]
  refine ⟨fun c => ?_, fun c => ?_⟩
  · rwa [if_pos c] at hK
  · rwa [if_neg c] at hK
def cPut (k : Nat) (line length : Int32) (h : xH) : xH :=
  if h k 2 < 0 ∨ 400 ≤ h k 2 then h else xup (xup (xup h (k + 10) (h k 2).toNatClampNeg line) k 2 (h k 2 + 1)) k 7 (h k 7 + length)
def cAddR (k : Nat) (length : Int32) (h : xH) : xH := if h k 2 = h (k + 20) 0 ∨ h k 7 + length ≤ h k 3 then h else cRot k h
def cAddF (k : Nat) (now : Int32) (h : xH) : xH := if h k 2 = h (k + 20) 0 then xup h k 6 now else h
def cAdd (k : Nat) (line length now : Int32) (h : xH) : xH := cPut k line length (cAddF k now (cAddR k length h))
theorem C_add {k : Nat} {line length now : Int32} {h : xH} {K : Unit → xH → Prop} (hK : K () (cAdd k line length now h)) : w_X2_add k line length now h K := by
  have p36 : ∀ g : xH, K () (cPut k line length g) → w_X2_add_36 k line length now K g := by
    intro g hg
    refine ⟨fun c => ?_, fun c => ⟨fun c2 => ?_, fun c2 => ⟨?_, ?_⟩⟩⟩
    · rwa [cPut, if_pos (Or.inl c)] at hg
    · rwa [cPut, if_pos (Or.inr c2)] at hg
    · obtain ⟨j, hj, e⟩ := nI_of c
      rw [e] at c2 ⊢
      exact vp_in_nI (by rcases Nat.lt_or_ge j 400 with q | q; exact q; exact absurd (nI_le q hj) c2) (by decide)
    · rintro h14 rfl h15 rfl h16 rfl
      rw [cPut, if_neg (by intro q; rcases q with q | q; exact c q; exact c2 q)] at hg
      have e1 : xup g (k + 10) (g k 2).toNatClampNeg line k 2 = g k 2 := xup_ne (Or.inl (by omega))
      have e2 : xup (xup g (k + 10) (g k 2).toNatClampNeg line) k 2 (g k 2 + 1) k 7 = g k 7 := by
        rw [xup_ne (Or.inr (by decide)), xup_ne (Or.inl (by omega))]
      rw [e1, e2]
      exact hg
  have p24 : ∀ g : xH, K () (cPut k line length (cAddF k now g)) → w_X2_add_24 k line length now K g := by
    intro g hg
    refine C_isEmpty ?_
    by_cases c : g k 2 = g (k + 20) 0
    · rw [if_pos c]
      refine ⟨fun q => absurd q (by decide), fun _ => ?_⟩
      rintro h10 rfl
      rw [cAddF, if_pos c] at hg
      exact p36 _ hg
    · rw [if_neg c]
      rw [cAddF, if_neg c] at hg
      exact ⟨fun _ => p36 _ hg, fun q => absurd rfl q⟩
  refine C_isEmpty ?_
  by_cases c : h k 2 = h (k + 20) 0
  · rw [if_pos c]
    rw [cAdd, cAddR, if_pos (Or.inl c)] at hK
    exact ⟨fun q => absurd q (by decide), fun _ => p24 _ hK⟩
  · rw [if_neg c]
    refine ⟨fun _ => ⟨fun c2 => ?_, fun c2 => ?_⟩, fun q => absurd rfl q⟩
    · rw [cAdd, cAddR, if_pos (Or.inr c2)] at hK
      exact p24 _ hK
    · rw [cAdd, cAddR, if_neg (by intro q; rcases q with q | q; exact c q; exact c2 q)] at hK
      exact C_turn (p24 _ hK)
def cAged (k : Nat) (now : Int32) (h : xH) : Prop := ¬ h k 4 = 0 ∧ ¬ h k 2 = h (k + 20) 0 ∧ ¬ now - h k 6 < h k 4
theorem C_isAged {k : Nat} {now : Int32} {h : xH} {K : Int32 → xH → Prop} (h1 : cAged k now h → K 1 h) (h0 : ¬ cAged k now h → K 0 h) : w_X2_isAged k now h K := by
  refine ⟨fun c => h0 (fun q => q.1 c), fun c => C_isEmpty ?_⟩
  by_cases e : h k 2 = h (k + 20) 0
  · rw [if_pos e]
    exact ⟨fun q => absurd q (by decide), fun _ => h0 (fun q => q.2.1 e)⟩
  · rw [if_neg e]
    exact ⟨fun _ => ⟨fun c3 => h0 (fun q => q.2.2 c3), fun c3 => h1 ⟨c, e, c3⟩⟩, fun q => absurd rfl q⟩
/-! the reference's files -/
def fRot (f : Nat) (m : xH) : xH := fun a b =>
  if a = 81 ∧ 7 * f ≤ b ∧ b ≤ 7 * f + 6 then (if b = 7 * f then m 79 f else m 81 (b - 1))
  else if a = 80 ∧ b = f then (if m 77 f ≤ m 80 f then m 80 f else m 80 f + 1)
  else if a = 78 ∧ b = f then 0
  else if a = 60 ∧ b = 30 then m 60 30 + 1
  else m a b
def shf (f d : Nat) (m : xH) : xH := fun a b => if a = 81 ∧ 7 * f + d < b ∧ b ≤ 7 * f + 6 then m 81 (b - 1) else m a b
theorem shf_6 {f : Nat} {m : xH} : shf f 6 m = m := by
  funext a b
  simp only [shf]
  rw [if_neg (by omega)]
theorem shf_s {f d : Nat} {m : xH} (hd : d < 6) : xup (shf f (d + 1) m) 81 (7 * f + (d + 1)) (shf f (d + 1) m 81 (7 * f + d)) = shf f d m := by
  funext a b
  simp only [xup, shf]
  grind
theorem fRot_e {f : Nat} {m : xH} {y : Int32} (hy : m 80 f + y = if m 77 f ≤ m 80 f then m 80 f else m 80 f + 1) : (xup (xup (xup (xup (shf f 0 m) 81 (7 * f) (shf f 0 m 79 f)) 80 f (m 80 f + y)) 78 f 0) 60 30 ((xup (shf f 0 m) 81 (7 * f) (shf f 0 m 79 f)) 60 30 + 1)) = fRot f m := by
  rw [hy]
  funext a b
  by_cases h1 : a = 81
  · subst h1
    simp only [xup, shf, fRot]
    grind
  · by_cases h2 : a = 80
    · subst h2
      simp only [xup, shf, fRot]
      grind
    · by_cases h3 : a = 78
      · subst h3
        simp only [xup, shf, fRot]
        grind
      · by_cases h4 : a = 60
        · subst h4
          simp only [xup, shf, fRot]
          grind
        · simp only [xup, shf, fRot]
          simp [h1, h2, h3, h4]
theorem M_rot {f : Nat} (hf : f < 4) {m : xH} {K : Unit → xH → Prop} (hK : K () (fRot f m)) : w_X6_rotates (nI f) m K := by
  have hc4 : (nI f).toNatClampNeg = f := nI_clamp (by omega)
  have hin : vp_in (nI f) 4 := vp_in_nI hf (by decide)
  have p76 : ∀ (g : xH) (x y : Int32), K () (xup (xup (xup g 80 f (x + y)) 78 f 0) 60 30 (g 60 30 + 1)) → w_X6_rotates_76 (nI f) K (nI f) x y g := by
    intro g x y hg
    refine ⟨hin, ?_⟩
    rw [hc4]
    rintro h16 rfl
    refine ⟨hin, ?_⟩
    rintro h18 rfl h19 rfl
    have e : xup (xup g 80 f (x + y)) 78 f 0 60 30 = g 60 30 := by
      rw [xup_ne (Or.inl (by decide)), xup_ne (Or.inl (by decide))]
    rw [e]
    exact hg
  have loop : ∀ d, d ≤ 6 → w_X6_rotates_12 (nI f) K (d + 1) (nI (7 * f)) (nI (7 * f + d)) (shf f d m) := by
    intro d
    induction d with
    | zero =>
      intro _
      rw [w_X6_rotates_12_s]
      refine ⟨fun _ => ?_, fun c => absurd (nI_le (by omega) (by omega)) c⟩
      rw [hc4, nI_clamp (by omega)]
      refine ⟨hin, vp_in_nI (by omega) (by decide), ?_⟩
      rintro h6 rfl
      have e77 : xup (shf f 0 m) 81 (7 * f) (shf f 0 m 79 f) 77 f = m 77 f := by
        rw [xup_ne (Or.inl (by decide))]; simp only [shf]; rw [if_neg (by omega)]
      have e80 : xup (shf f 0 m) 81 (7 * f) (shf f 0 m 79 f) 80 f = m 80 f := by
        rw [xup_ne (Or.inl (by decide))]; simp only [shf]; rw [if_neg (by omega)]
      rw [e77, e80]
      have key : ∀ y : Int32, (m 80 f + y = if m 77 f ≤ m 80 f then m 80 f else m 80 f + 1) → K () (xup (xup (xup (xup (shf f 0 m) 81 (7 * f) (shf f 0 m 79 f)) 80 f (m 80 f + y)) 78 f 0) 60 30 ((xup (shf f 0 m) 81 (7 * f) (shf f 0 m 79 f)) 60 30 + 1)) := by
        intro y hy
        have e := fRot_e hy
        rw [e]; exact hK
      refine ⟨hin, hin, hin, fun c => p76 _ _ _ (key 0 ?_), fun c => p76 _ _ _ (key 1 ?_)⟩
      · rw [if_pos c]; exact Int32.add_zero _
      · rw [if_neg c]
    | succ d ih =>
      intro hd
      rw [w_X6_rotates_12_s]
      refine ⟨fun c => absurd c (nI_ge (by omega) (by omega)), fun _ => ?_⟩
      have e1 : nI (7 * f + (d + 1)) - 1 = nI (7 * f + d) := nI_pred (7 * f + d)
      have e2 : nI (7 * f + (d + 1)) + (-1) = nI (7 * f + d) := pk_m1 (7 * f + d)
      rw [e1, e2, nI_clamp (by omega), nI_clamp (by omega)]
      refine ⟨vp_in_nI (by omega) (by decide), vp_in_nI (by omega) (by decide), ?_⟩
      rintro h13 rfl x rfl
      rw [shf_s (by omega)]
      exact ih (by omega)
  rintro x1 rfl x2 rfl
  have e1 : (7 : Int32) * nI f = nI (7 * f) := pk_mul 7 f
  have e2 : nI (7 * f) + 7 - 1 = nI (7 * f + 6) := by
    rw [show (7 : Int32) = nI 7 from rfl, nI_add]; exact nI_pred (7 * f + 6)
  rw [e1, e2]
  refine ⟨7, ?_⟩
  have := loop 6 (Nat.le_refl 6)
  rw [shf_6] at this
  exact this
