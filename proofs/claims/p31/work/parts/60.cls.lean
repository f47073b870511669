theorem x32_0 : (0 : Int32).toNatClampNeg = 0 := by decide
theorem xin0 {n : Nat} (h : 0 < n) (hn : n < 2 ^ 31) : vp_in 0 n := by
  have h1 := vp_in_nI (n := 0) (N := n) h hn
  rwa [nI_0] at h1
def cRot (k : Nat) (h : xH) : xH := fun a b =>
  if a = k + 20 then (if b = 0 then h k 2 else if b ≤ 5 then h (k + 20) (b - 1) else h (k + 20) b)
  else if a = k then (if b = 7 then 0 else if b = 9 then h k 9 + 1 else if b = 8 then (if h k 5 ≤ h k 8 then h k 8 else h k 8 + 1) else h k b)
  else h a b
def shc (k d : Nat) (h : xH) : xH := fun a b => if a = k + 20 ∧ d < b ∧ b ≤ 5 then h (k + 20) (b - 1) else h a b
theorem shc_5 {k : Nat} {h : xH} : shc k 5 h = h := by
  funext a b
  simp only [shc]
  rw [if_neg (by omega)]
theorem shc_s {k d : Nat} {h : xH} (hd : d < 5) : xup (shc k (d + 1) h) (k + 20) (d + 1) (shc k (d + 1) h (k + 20) d) = shc k d h := by
  funext a b
  simp only [xup, shc]
  grind
theorem cRot_e {k : Nat} {h : xH} : (if (xup (xup (xup (shc k 0 h) (k + 20) 0 (shc k 0 h k 2)) k 7 0) k 9 (xup (xup (shc k 0 h) (k + 20) 0 (shc k 0 h k 2)) k 7 0 k 9 + 1)) k 5 ≤ (xup (xup (xup (shc k 0 h) (k + 20) 0 (shc k 0 h k 2)) k 7 0) k 9 (xup (xup (shc k 0 h) (k + 20) 0 (shc k 0 h k 2)) k 7 0 k 9 + 1)) k 8 then (xup (xup (xup (shc k 0 h) (k + 20) 0 (shc k 0 h k 2)) k 7 0) k 9 (xup (xup (shc k 0 h) (k + 20) 0 (shc k 0 h k 2)) k 7 0 k 9 + 1)) else xup (xup (xup (xup (shc k 0 h) (k + 20) 0 (shc k 0 h k 2)) k 7 0) k 9 (xup (xup (shc k 0 h) (k + 20) 0 (shc k 0 h k 2)) k 7 0 k 9 + 1)) k 8 ((xup (xup (xup (shc k 0 h) (k + 20) 0 (shc k 0 h k 2)) k 7 0) k 9 (xup (xup (shc k 0 h) (k + 20) 0 (shc k 0 h k 2)) k 7 0 k 9 + 1)) k 8 + 1)) = cRot k h := by
  funext a b
  have e1 : ∀ j, shc k 0 h k j = h k j := fun j => by simp only [shc]; rw [if_neg (by omega)]
  by_cases hc : h k 5 ≤ h k 8
  · rw [if_pos (by simpa [xup, e1] using hc)]
    simp only [xup, cRot, e1]
    simp only [shc]
    grind
  · rw [if_neg (by simpa [xup, e1] using hc)]
    simp only [xup, cRot, e1]
    simp only [shc]
    grind
theorem C_turn {k : Nat} {h : xH} {K : Unit → xH → Prop} (hK : K () (cRot k h)) : w_X2_turnOver k h K := by
  have loop : ∀ d, d ≤ 5 → w_X2_turnOver_2 k K (d + 1) (nI d) (shc k d h) := by
    intro d
    induction d with
    | zero =>
      intro _
      rw [w_X2_turnOver_2_s]
      refine ⟨fun _ => ⟨xin0 (by decide) (by decide), ?_⟩, fun c => absurd (nI_le (Nat.le_refl 0) (by decide)) c⟩
      rw [x32_0]
      rintro h3 rfl h4 rfl h5 rfl
      refine ⟨fun c => ?_, fun c => ?_⟩
      · have e := cRot_e (k := k) (h := h)
        rw [if_pos c] at e
        rw [e]; exact hK
      · rintro h7 rfl
        have e := cRot_e (k := k) (h := h)
        rw [if_neg c] at e
        rw [e]; exact hK
    | succ d ih =>
      intro hd
      rw [w_X2_turnOver_2_s]
      refine ⟨fun c => absurd c (nI_nle (by omega) (by omega)), fun _ => ?_⟩
      rw [nI_pred, nI_clamp (by omega), nI_clamp (by omega), pk_m1]
      refine ⟨vp_in_nI (by omega) (by decide), vp_in_nI (by omega) (by decide), ?_⟩
      rintro h10 rfl x rfl
      rw [shc_s (by omega)]
      exact ih (by omega)
  refine ⟨6, ?_⟩
  have := loop 5 (Nat.le_refl 5)
  rw [shc_5] at this
  exact this
theorem C_isEmpty {k : Nat} {h : xH} {K : Int32 → xH → Prop} (hK : K (if h k 2 = h (k + 20) 0 then 1 else 0) h) : w_X2_isEmpty k h K := by
  refine ⟨xin0 (by decide) (by decide), ?_⟩
  rw [x32_0]
  refine ⟨fun c => ?_, fun c => ?_⟩
  · rwa [if_pos c] at hK
  · rwa [if_neg c] at hK
def cPut (k : Nat) (line length : Int32) (h : xH) : xH :=
  if h k 2 < 0 ∨ 400 ≤ h k 2 then h else xup (xup (xup h (k + 10) (h k 2).toNatClampNeg line) k 2 (h k 2 + 1)) k 7 (h k 7 + length)
def cAddR (k : Nat) (length : Int32) (h : xH) : xH := if h k 2 = h (k + 20) 0 ∨ h k 7 + length ≤ h k 3 then h else cRot k h
def cAddF (k : Nat) (now : Int32) (h : xH) : xH := if h k 2 = h (k + 20) 0 then xup h k 6 now else h
def cAdd (k : Nat) (line length now : Int32) (h : xH) : xH := cPut k line length (cAddF k now (cAddR k length h))
theorem C_add {k : Nat} {line length now : Int32} {h : xH} {K : Unit → xH → Prop} (hK : K () (cAdd k line length now h)) : w_X2_add k line length now h K := by
  have p36 : ∀ g : xH, K () (cPut k line length g) → w_X2_add_36 k line length now K g := by
    intro g hg
    refine ⟨fun c => ?_, fun c => ⟨fun c2 => ?_, fun c2 => ⟨?_, ?_⟩⟩⟩
    · rwa [cPut, if_pos (Or.inl c)] at hg
    · rwa [cPut, if_pos (Or.inr c2)] at hg
    · obtain ⟨j, hj, e⟩ := nI_of c
      rw [e] at c2 ⊢
      exact vp_in_nI (by rcases Nat.lt_or_ge j 400 with q | q; exact q; exact absurd (nI_le q hj) c2) (by decide)
    · rintro h14 rfl h15 rfl h16 rfl
      rw [cPut, if_neg (by intro q; rcases q with q | q; exact c q; exact c2 q)] at hg
      have e1 : xup g (k + 10) (g k 2).toNatClampNeg line k 2 = g k 2 := xup_ne (Or.inl (by omega))
      have e2 : xup (xup g (k + 10) (g k 2).toNatClampNeg line) k 2 (g k 2 + 1) k 7 = g k 7 := by
        rw [xup_ne (Or.inr (by decide)), xup_ne (Or.inl (by omega))]
      rw [e1, e2]
      exact hg
  have p24 : ∀ g : xH, K () (cPut k line length (cAddF k now g)) → w_X2_add_24 k line length now K g := by
    intro g hg
    refine C_isEmpty ?_
    by_cases c : g k 2 = g (k + 20) 0
    · rw [if_pos c]
      refine ⟨fun q => absurd q (by decide), fun _ => ?_⟩
      rintro h10 rfl
      rw [cAddF, if_pos c] at hg
      exact p36 _ hg
    · rw [if_neg c]
      rw [cAddF, if_neg c] at hg
      exact ⟨fun _ => p36 _ hg, fun q => absurd rfl q⟩
  refine C_isEmpty ?_
  by_cases c : h k 2 = h (k + 20) 0
  · rw [if_pos c]
    rw [cAdd, cAddR, if_pos (Or.inl c)] at hK
    exact ⟨fun q => absurd q (by decide), fun _ => p24 _ hK⟩
  · rw [if_neg c]
    refine ⟨fun _ => ⟨fun c2 => ?_, fun c2 => ?_⟩, fun q => absurd rfl q⟩
    · rw [cAdd, cAddR, if_pos (Or.inr c2)] at hK
      exact p24 _ hK
    · rw [cAdd, cAddR, if_neg (by intro q; rcases q with q | q; exact c q; exact c2 q)] at hK
      exact C_turn (p24 _ hK)
def cAged (k : Nat) (now : Int32) (h : xH) : Prop := ¬ h k 4 = 0 ∧ ¬ h k 2 = h (k + 20) 0 ∧ ¬ now - h k 6 < h k 4
theorem C_isAged {k : Nat} {now : Int32} {h : xH} {K : Int32 → xH → Prop} (h1 : cAged k now h → K 1 h) (h0 : ¬ cAged k now h → K 0 h) : w_X2_isAged k now h K := by
  refine ⟨fun c => h0 (fun q => q.1 c), fun c => C_isEmpty ?_⟩
  by_cases e : h k 2 = h (k + 20) 0
  · rw [if_pos e]
    exact ⟨fun q => absurd q (by decide), fun _ => h0 (fun q => q.2.1 e)⟩
  · rw [if_neg e]
    exact ⟨fun _ => ⟨fun c3 => h0 (fun q => q.2.2 c3), fun c3 => h1 ⟨c, e, c3⟩⟩, fun q => absurd rfl q⟩
def bt (x : Int32) (i : Nat) : Bool := x.toBitVec.getLsbD i
theorem b_ext {x y : Int32} (h : ∀ i, i < 32 → bt x i = bt y i) : x = y := Int32.toBitVec_inj.mp (BitVec.eq_of_getLsbD_eq (fun i hi => h i hi))
theorem b_or (x y : Int32) (i : Nat) : bt (x ||| y) i = (bt x i || bt y i) := by unfold bt; rw [Int32.toBitVec_or, BitVec.getLsbD_or]
theorem b_and (x y : Int32) (i : Nat) : bt (x &&& y) i = (bt x i && bt y i) := by unfold bt; rw [Int32.toBitVec_and, BitVec.getLsbD_and]
theorem b_0 (i : Nat) : bt 0 i = false := BitVec.getLsbD_zero
theorem b_1 : ∀ i, i < 32 → bt 1 i = decide (i = 0) := by decide +kernel
theorem s_l : ∀ n, n < 32 → ((nI n &&& 31).toBitVec.smod 32).toNat = n := by decide +kernel
theorem b_shl (n : Nat) (hn : n < 32) (x : Int32) {i : Nat} (hi : i < 32) : bt (x <<< (nI n &&& 31)) i = (decide (n ≤ i) && bt x (i - n)) := by
  unfold bt
  rw [Int32.toBitVec_shiftLeft]
  show (x.toBitVec <<< ((nI n &&& 31).toBitVec.smod 32).toNat).getLsbD i = _
  rw [s_l n hn, BitVec.getLsbD_shiftLeft]
  rcases Nat.lt_or_ge i n with h | h
  · simp [h, Nat.not_le.mpr h]
  · simp [hi, h, Nat.not_lt.mpr h]
theorem b_sshr (n : Nat) (hn : n < 32) (x : Int32) {i : Nat} (hi : i < 32) : bt (x >>> (nI n &&& 31)) i = if n + i < 32 then bt x (n + i) else bt x 31 := by
  unfold bt
  rw [Int32.toBitVec_shiftRight]
  show (x.toBitVec.sshiftRight ((nI n &&& 31).toBitVec.smod 32).toNat).getLsbD i = _
  rw [s_l n hn, BitVec.getLsbD_sshiftRight, BitVec.msb_eq_getLsbD_last]
  simp [hi]
theorem bit_1 (s : Int32) {t : Nat} (ht : t < 32) : ((s >>> (nI t &&& 31)) &&& 1) = if bt s t = true then 1 else 0 := by
  apply b_ext
  intro i hi
  rw [b_and, b_1 i hi, b_sshr t ht s hi]
  by_cases h0 : i = 0
  · subst h0
    rw [Nat.add_zero, if_pos ht]
    cases h : bt s t
    · simp [b_0]
    · simp [b_1 0 (by decide)]
  · simp only [h0, decide_false, Bool.and_false]
    cases h : bt s t
    · simp [b_0]
    · simp [b_1 i hi, h0]
theorem bit_z (s : Int32) {t : Nat} (ht : t < 32) : ((s >>> (nI t &&& 31)) &&& 1) = 0 ↔ bt s t = false := by
  rw [bit_1 s ht]
  cases h : bt s t <;> simp
theorem bit_o (s : Int32) {t : Nat} (ht : t < 32) : ((s >>> (nI t &&& 31)) &&& 1) = 1 ↔ bt s t = true := by
  rw [bit_1 s ht]
  cases h : bt s t <;> simp
theorem bit_set (s : Int32) {t u : Nat} (ht : t < 32) (hu : u < 32) : bt (s ||| ((1 : Int32) <<< (nI t &&& 31))) u = (bt s u || decide (u = t)) := by
  rw [b_or, b_shl t ht 1 hu]
  congr 1
  rcases Nat.lt_or_ge u t with h | h
  · simp [Nat.not_le.mpr h]; omega
  · rw [b_1 _ (by omega)]
    simp [h]; omega
def cTake (line : Int32) (h : xH) : xH := if 30 ≤ h 4 1 - h 4 3 ∨ h 4 1 < 0 ∨ 400 ≤ h 4 1 then xup h 4 4 (h 4 4 + 1) else xup (xup h 5 (h 4 1).toNatClampNeg line) 4 1 (h 4 1 + 1)
theorem C_take {line : Int32} {h : xH} {K : Unit → xH → Prop} (hK : K () (cTake line h)) : w_X0_take line h K := by
  have p56 : (30 ≤ h 4 1 - h 4 3 ∨ h 4 1 < 0 ∨ 400 ≤ h 4 1) → w_X0_take_56 line K h := by
    rintro c h7 rfl
    rw [cTake, if_pos c] at hK
    exact hK
  refine ⟨fun c => p56 (Or.inl c), fun c => ⟨fun c2 => p56 (Or.inr (Or.inl c2)), fun c2 => ⟨fun c3 => p56 (Or.inr (Or.inr c3)), fun c3 => ⟨?_, ?_⟩⟩⟩⟩
  · obtain ⟨j, hj, e⟩ := nI_of c2
    rw [e] at c3 ⊢
    exact vp_in_nI (by rcases Nat.lt_or_ge j 400 with q | q; exact q; exact absurd (nI_le q hj) c3) (by decide)
  · rintro h5 rfl h6 rfl
    rw [cTake, if_neg (by intro q; rcases q with q | q | q; exact c q; exact c2 q; exact c3 q)] at hK
    rw [xup_ne (Or.inl (by decide))]
    exact hK
abbrev cFits (s f v : Int32) (r : Nat) (h : xH) : Prop := ¬ h (20 + r) 0 = 0 ∧ ((h (20 + r) 1 >>> (f &&& 31)) &&& 1) = 1 ∧ ¬ h (20 + r) 2 < v ∧ (h (20 + r) 3 = -1 ∨ h (20 + r) 3 = s)
theorem C_fits {s f v : Int32} {r : Nat} {h : xH} {K : Int32 → xH → Prop} (h1 : cFits s f v r h → K 1 h) (h0 : ¬ cFits s f v r h → K 0 h) : w_X3_fits (20 + r) s f v h K :=
  ⟨fun c => h0 (fun q => q.1 c), fun c => ⟨fun c1 => ⟨fun c2 => h0 (fun q => q.2.2.1 c2), fun c2 => ⟨fun c3 => h1 ⟨c, c1, c2, Or.inl c3⟩, fun c3 => ⟨fun c4 => h1 ⟨c, c1, c2, Or.inr c4⟩, fun c4 => h0 (fun q => by rcases q.2.2.2 with q | q; exact c3 q; exact c4 q)⟩⟩⟩, fun c1 => h0 (fun q => c1 q.2.1)⟩⟩
def cStep (s f v line len : Int32) (r : Nat) (p : Int32 × xH) : Int32 × xH :=
  if ¬ ((p.1 >>> (p.2 (20 + r) 4 &&& 31)) &&& 1) = 1 ∧ cFits s f v r p.2 then
    (p.1 ||| ((1 : Int32) <<< (p.2 (20 + r) 4 &&& 31)), if p.2 (20 + r) 4 < 0 ∨ 4 ≤ p.2 (20 + r) 4 then cTake line p.2 else cAdd (30 + (p.2 (20 + r) 4).toNatClampNeg) line len (p.2 0 5) p.2)
  else p
def cGo (s f v line len : Int32) : Nat → Int32 × xH → Int32 × xH
  | 0, p => p
  | n + 1, p => cStep s f v line len n (cGo s f v line len n p)
theorem C_route {s f v line len : Int32} {h : xH} {K : Int32 → xH → Prop} (hK : K (cGo s f v line len 6 (0, h)).1 (cGo s f v line len 6 (0, h)).2) : w_X5_route line s f v len h K := by
  have loop : ∀ d r, r + d = 6 → w_X5_route_6 line s f v len K (d + 1) (cGo s f v line len r (0, h)).1 (nI r) (cGo s f v line len r (0, h)).2 := by
    intro d
    induction d with
    | zero =>
      intro r hr
      have hr6 : r = 6 := by omega
      subst hr6
      rw [w_X5_route_6_s]
      exact ⟨fun _ => hK, fun c => absurd (nI_le (Nat.le_refl 6) (by decide)) c⟩
    | succ d ih =>
      intro r hr
      have hr6 : r < 6 := by omega
      have hin : vp_in (nI r) 6 := vp_in_nI hr6 (by decide)
      have nx := ih (r + 1) (by omega)
      rw [w_X5_route_6_s, nI_clamp (by omega)]
      rw [show cGo s f v line len (r + 1) (0, h) = cStep s f v line len r (cGo s f v line len r (0, h)) from rfl] at nx
      generalize cGo s f v line len r (0, h) = p at nx ⊢
      obtain ⟨st, g⟩ := p
      dsimp only at nx ⊢
      have skip : ¬ (¬ ((st >>> (g (20 + r) 4 &&& 31)) &&& 1) = 1 ∧ cFits s f v r g) → w_X5_route_116 line s f v len K (w_X5_route_6 line s f v len K (d + 1)) st (nI r) g := by
        intro hn
        rw [cStep, if_neg hn] at nx
        rintro x rfl
        rw [nI_1]
        exact nx
      refine ⟨fun c => absurd c (nI_ge hr6 (by decide)), fun _ => ⟨hin, ?_⟩⟩
      rintro x5 rfl
      refine ⟨fun c => ⟨fun q => absurd q (by decide), fun _ => skip (fun q => q.1 c)⟩, fun c => ⟨fun _ => ⟨hin, ?_⟩, fun q => absurd rfl q⟩⟩
      rw [nI_clamp (by omega)]
      refine C_fits (fun hf => ?_) (fun hf => ⟨fun _ => skip (fun q => hf q.2), fun q => absurd rfl q⟩)
      refine ⟨fun q => absurd q (by decide), fun _ => ?_⟩
      rintro x14 rfl
      rw [cStep, if_pos ⟨c, hf⟩] at nx
      dsimp only at nx
      have take : (g (20 + r) 4 < 0 ∨ 4 ≤ g (20 + r) 4) → w_X5_route_108 line s f v len K (w_X5_route_6 line s f v len K (d + 1)) (st ||| ((1 : Int32) <<< (g (20 + r) 4 &&& 31))) (nI r) g := by
        intro ht
        rw [if_pos ht] at nx
        refine C_take ?_
        rintro x rfl
        rw [nI_1]
        exact nx
      refine ⟨fun c2 => take (Or.inl c2), fun c2 => ⟨fun c3 => take (Or.inr c3), fun c3 => ⟨?_, ?_⟩⟩⟩
      · obtain ⟨j, hj, e⟩ := nI_of c2
        rw [e] at c3 ⊢
        exact vp_in_nI (by rcases Nat.lt_or_ge j 4 with q | q; exact q; exact absurd (nI_le q hj) c3) (by decide)
      · rw [if_neg (by intro q; rcases q with q | q; exact c2 q; exact c3 q)] at nx
        refine C_add ?_
        rintro x rfl
        rw [nI_1]
        exact nx
  exact ⟨7, loop 6 0 rfl⟩
theorem cRot_o {k a : Nat} {h : xH} (h1 : a ≠ k) (h2 : a ≠ k + 20) : cRot k h a = h a := by
  funext b
  simp only [cRot, if_neg h1, if_neg h2]
theorem cPut_o {k a : Nat} {line len : Int32} {h : xH} (h1 : a ≠ k) (h2 : a ≠ k + 10) : cPut k line len h a = h a := by
  unfold cPut
  split
  · rfl
  · rw [xup_row h1, xup_row h1, xup_row h2]
theorem cAdd_o {k a : Nat} {line len now : Int32} {h : xH} (h1 : a ≠ k) (h2 : a ≠ k + 10) (h3 : a ≠ k + 20) : cAdd k line len now h a = h a := by
  unfold cAdd
  rw [cPut_o h1 h2]
  unfold cAddF
  have e : cAddR k len h a = h a := by
    unfold cAddR
    split
    · rfl
    · exact cRot_o h1 h3
  split
  · rw [xup_row h1, e]
  · exact e
theorem cTake_o {a : Nat} {line : Int32} {h : xH} (h1 : a ≠ 4) (h2 : a ≠ 5) : cTake line h a = h a := by
  unfold cTake
  split
  · exact xup_row h1
  · rw [xup_row h1, xup_row h2]
def xsum (h : xH) : Int32 := h 30 9 + h 31 9 + h 32 9 + h 33 9
theorem xsum_rot {h : xH} {f : Nat} (hf : f < 4) : xsum (cRot (30 + f) h) = xsum h + 1 := by
  have hc : ∀ a b c d : Int32, a + 1 + b + c + d = a + b + c + d + 1 ∧ a + (b + 1) + c + d = a + b + c + d + 1 ∧ a + b + (c + 1) + d = a + b + c + d + 1 ∧ a + b + c + (d + 1) = a + b + c + d + 1 := by
    intro a b c d
    refine ⟨?_, ?_, ?_, ?_⟩ <;> grind
  unfold xsum
  rcases (show f = 0 ∨ f = 1 ∨ f = 2 ∨ f = 3 by omega) with rfl | rfl | rfl | rfl
  · simp [cRot]; exact (hc _ _ _ _).1
  · simp [cRot]; exact (hc _ _ _ _).2.1
  · simp [cRot]; exact (hc _ _ _ _).2.2.1
  · simp [cRot]; exact (hc _ _ _ _).2.2.2
theorem xsum_fr {h h' : xH} (h0 : ∀ k, 30 ≤ k → k < 34 → h' k 9 = h k 9) : xsum h' = xsum h := by
  unfold xsum
  rw [h0 30 (by decide) (by decide), h0 31 (by decide) (by decide), h0 32 (by decide) (by decide), h0 33 (by decide) (by decide)]
theorem cGo_o {s f v line len st : Int32} {h : xH} {a : Nat} (h4 : a ≠ 4) (h5 : a ≠ 5) (h3 : a < 30 ∨ 54 ≤ a) : ∀ n, (cGo s f v line len n (st, h)).2 a = h a := by
  intro n
  induction n with
  | zero => rfl
  | succ n ih =>
    show (cStep s f v line len n (cGo s f v line len n (st, h))).2 a = h a
    rw [← ih]
    generalize cGo s f v line len n (st, h) = p
    unfold cStep
    split
    · dsimp only
      split
      · exact cTake_o h4 h5
      · rename_i q
        obtain ⟨j, hj, e⟩ := nI_of (fun z => q (Or.inl z))
        have hj4 : j < 4 := by
          rcases Nat.lt_or_ge j 4 with z | z
          · exact z
          · exact absurd (Or.inr (by rw [e]; exact nI_le z hj)) q
        rw [e, nI_clamp hj]
        exact cAdd_o (by omega) (by omega) (by omega)
    · rfl
def cTell (k : Nat) (h : xH) : xH := if h k 2 ≤ 0 then h else xup (cGo (h k 0) (h k 5) (h k 6) (10000 * (h k 0 + 1) + h k 2) 15 6 (0, h)).2 k 2 0
theorem C_tell {k : Nat} {h : xH} {K : Unit → xH → Prop} (hK : K () (cTell k h)) : w_X5_tellRepeats k h K := by
  refine ⟨fun c => ?_, fun c => ?_⟩
  · rw [cTell, if_pos c] at hK; exact hK
  · rw [cTell, if_neg c] at hK
    rintro x2 rfl
    refine C_route ?_
    rintro h5 rfl
    exact hK
def cTellD (k : Nat) (h : xH) : xH := if h k 4 ≤ 0 then h else xup (cGo (h k 0) 5 4 (100000 * (h k 0 + 1) + h k 4) 20 6 (0, h)).2 k 4 0
theorem C_tellD {k : Nat} {h : xH} {K : Unit → xH → Prop} (hK : K () (cTellD k h)) : w_X5_tellDrops k h K := by
  refine ⟨fun c => ?_, fun c => ?_⟩
  · rw [cTellD, if_pos c] at hK; exact hK
  · rw [cTellD, if_neg c] at hK
    rintro x2 rfl
    refine C_route ?_
    rintro h5 rfl
    exact hK
def cEnter (fate set : Int32) (h : xH) : xH := if h 6 2 < 0 ∨ 400 ≤ h 6 2 then h else xup (xup (xup h 7 (h 6 2).toNatClampNeg fate) 8 (h 6 2).toNatClampNeg set) 6 2 (h 6 2 + 1)
theorem C_enter {fate set : Int32} {h : xH} {K : Int32 → xH → Prop} (hK : K fate (cEnter fate set h)) : w_X1_enter fate set h K := by
  refine ⟨fun c => ?_, fun c => ⟨fun c2 => ?_, fun c2 => ?_⟩⟩
  · rwa [cEnter, if_pos (Or.inl c)] at hK
  · rwa [cEnter, if_pos (Or.inr c2)] at hK
  · rw [cEnter, if_neg (by intro q; rcases q with q | q; exact c q; exact c2 q)] at hK
    have hin : vp_in (h 6 2) 400 := by
      obtain ⟨j, hj, e⟩ := nI_of c
      rw [e] at c2 ⊢
      exact vp_in_nI (by rcases Nat.lt_or_ge j 400 with q | q; exact q; exact absurd (nI_le q hj) c2) (by decide)
    refine ⟨hin, ?_⟩
    rintro h4 rfl
    rw [xup_ne (Or.inl (by decide : (6 : Nat) ≠ 7))]
    refine ⟨hin, ?_⟩
    rintro h6 rfl h7 rfl
    rw [xup_ne (Or.inl (by decide : (6 : Nat) ≠ 8)), xup_ne (Or.inl (by decide : (6 : Nat) ≠ 7))]
    exact hK
def cFold (k : Nat) (now : Int32) (h : xH) : xH := xup (if h k 2 = 0 then xup h k 3 now else h) k 2 (h k 2 + 1)
theorem C_countRepeat {k : Nat} {now : Int32} {h : xH} {K : Unit → xH → Prop} (hK : K () (cFold k now h)) : w_X4_countRepeat k now h K := by
  refine ⟨fun c => ?_, fun c => ?_⟩
  · rintro h2 rfl h3 rfl
    rw [cFold, if_pos c] at hK
    rw [xup_ne (Or.inr (by decide))]
    exact hK
  · rintro h3 rfl
    rw [cFold, if_neg c] at hK
    exact hK
def cLast (k : Nat) (a b d e : Int32) (h : xH) : xH := xup (xup (xup (xup h k 5 a) k 6 b) k 7 d) k 8 e
theorem nI_m1 {n : Nat} (h : n < 2 ^ 31) : ¬ nI n = -1 := by
  intro q
  have h1 := nI_toInt h
  rw [q] at h1
  have h2 : (-1 : Int32).toInt = -1 := by decide
  omega
def cMsg (k : Nat) (p0 p1 p2 p3 p4 : Int32) (h : xH) : Int32 × xH :=
  if ¬ h 0 8 = 0 ∧ (h k 5 = p1 ∧ h k 6 = p2 ∧ h k 7 = p3 ∧ h k 8 = p4) then (0, cEnter 0 0 (cFold k (h 0 5) h))
  else
    if cTell k h k 1 = 0 then (1, cEnter 1 0 (xup (cTell k h) k 4 (cTell k h k 4 + 1)))
    else
      let h2 := cLast k p1 p2 p3 p4 (cTellD k (xup (cTell k h) k 1 (cTell k h k 1 - 1)))
      let q := cGo p0 p1 p2 (h2 6 2) p4 6 (0, h2)
      (if q.1 = 0 then 2 else 3, cEnter (if q.1 = 0 then 2 else 3) q.1 q.2)
theorem C_isWithin {v lo hi : Int32} {h : xH} {K : Int32 → xH → Prop} (h1 : ¬ v < lo → ¬ hi < v → K 1 h) (h0 : v < lo ∨ hi < v → K 0 h) : w_X5_isWithin v lo hi h K :=
  ⟨fun c => h0 (Or.inl c), fun c => ⟨fun c2 => h0 (Or.inr c2), fun c2 => h1 c c2⟩⟩
theorem nI_rng {n hi : Nat} (h : n ≤ hi) (hh : hi < 2 ^ 31) : ¬ nI n < 0 ∧ ¬ nI hi < nI n := ⟨nI_pos (by omega), nI_nlt h hh⟩
theorem C_msg {s f v t n : Nat} {h : xH} {K : Int32 → xH → Prop} (hs : s < 6) (hf : f < 8) (hv : v < 8) (ht : t < 100) (hn : n < 200) (h4 : h 6 2 < 400)
    (hK : K (cMsg (10 + s) (nI s) (nI f) (nI v) (nI t) (nI (n + 1)) h).1 (cMsg (10 + s) (nI s) (nI f) (nI v) (nI t) (nI (n + 1)) h).2) : w_X5_message (nI s) (nI f) (nI v) (nI t) (nI (n + 1)) h K := by
  have yes : ∀ (q : Int32 → Prop), (∀ r : Int32, r = 1 → q r) → q 1 := fun q z => z 1 rfl
  have p120 : ¬ (¬ h 0 8 = 0 ∧ (h (10 + s) 5 = nI f ∧ h (10 + s) 6 = nI v ∧ h (10 + s) 7 = nI t ∧ h (10 + s) 8 = nI (n + 1))) → w_X5_message_120 (nI s) (nI f) (nI v) (nI t) (nI (n + 1)) K (10 + s) h := by
    intro hc
    rw [cMsg, if_neg hc] at hK
    refine C_tell ⟨fun c => ?_, fun c => ?_⟩
    · rw [if_pos c] at hK
      rintro h38 rfl
      exact C_enter hK
    · rw [if_neg c] at hK
      rintro h30 rfl
      refine C_tellD ?_
      rintro h1 rfl h2 rfl h3 rfl h4 rfl
      refine C_route ⟨fun c2 => ?_, fun c2 => ?_⟩
      · have e := hK
        dsimp only at e
        unfold cLast at e
        rw [if_pos c2] at e
        exact C_enter e
      · have e := hK
        dsimp only at e
        unfold cLast at e
        rw [if_neg c2] at e
        exact C_enter e
  refine ⟨fun c => absurd c (nI_pos (by omega)), fun _ => ⟨fun _ => ⟨vp_in_nI hs (by decide), ?_⟩, fun c => absurd (nI_lt hs (by decide)) c⟩⟩
  rw [nI_clamp (by omega)]
  refine ⟨⟨by omega, by omega⟩, C_isWithin (fun _ _ => ⟨fun q => absurd q (by decide), fun _ => ?_⟩) (fun q => absurd q (fun z => by rcases z with z | z; exact nI_pos (by omega) z; exact (nI_rng (n := f) (hi := 7) (by omega) (by decide)).2 z))⟩
  refine C_isWithin (fun _ _ => ⟨fun q => absurd q (by decide), fun _ => ?_⟩) (fun q => absurd q (fun z => by rcases z with z | z; exact nI_pos (by omega) z; exact (nI_rng (n := v) (hi := 7) (by omega) (by decide)).2 z))
  refine C_isWithin (fun _ _ => ⟨fun q => absurd q (by decide), fun _ => ?_⟩) (fun q => absurd q (fun z => by rcases z with z | z; exact nI_pos (by omega) z; exact (nI_rng (n := t) (hi := 99) (by omega) (by decide)).2 z))
  refine C_isWithin (fun _ _ => ⟨fun q => absurd q (by decide), fun _ => ?_⟩) (fun q => absurd q (fun z => by rcases z with z | z; exact nI_nlt (a := n + 1) (b := 1) (by omega) (by omega) z; exact (nI_rng (n := n + 1) (hi := 200) (by omega) (by decide)).2 z))
  refine ⟨fun _ => ⟨fun _ => ⟨fun c => p120 (fun q => q.1 c), fun c => ?_⟩, fun q => absurd rfl q⟩, fun c => absurd h4 c⟩
  refine ⟨fun c5 => ⟨fun c6 => ⟨fun c7 => ⟨fun c8 => ?_, fun c8 => ?_⟩, fun c7 => ?_⟩, fun c6 => ?_⟩, fun c5 => ?_⟩
  · refine ⟨fun q => absurd q (by decide), fun _ => C_countRepeat (C_enter ?_)⟩
    rw [cMsg, if_pos ⟨c, c5, c6, c7, c8⟩] at hK
    exact hK
  · exact ⟨fun _ => p120 (fun q => c8 q.2.2.2.2), fun q => absurd rfl q⟩
  · exact ⟨fun _ => p120 (fun q => c7 q.2.2.2.1), fun q => absurd rfl q⟩
  · exact ⟨fun _ => p120 (fun q => c6 q.2.2.1), fun q => absurd rfl q⟩
  · exact ⟨fun _ => p120 (fun q => c5 q.2.1), fun q => absurd rfl q⟩
def bst (d : Nat → Bool) (f : Nat → Int32) : Nat → Option Nat
  | 0 => none
  | n + 1 => if d n = true then (match bst d f n with | none => some n | some k => if f k ≤ f n then some k else some n) else bst d f n
def Best (d : Nat → Bool) (f : Nat → Int32) (lo hi : Nat) (r : Option Nat) : Prop := (r = none ∧ ∀ j, lo ≤ j → j < hi → d j = false) ∨ ∃ k, r = some k ∧ lo ≤ k ∧ k < hi ∧ d k = true ∧ ∀ j, lo ≤ j → j < hi → d j = true → f k ≤ f j ∧ (j < k → ¬ f j ≤ f k)
theorem i32_tr {a b c : Int32} (h1 : a ≤ b) (h2 : b ≤ c) : a ≤ c := by
  rw [Int32.le_iff_toInt_le] at *; omega
theorem i32_nle {a b : Int32} (h : ¬ a ≤ b) : b ≤ a := by
  rw [Int32.le_iff_toInt_le] at *; omega
theorem i32_nlt {a b : Int32} (h : ¬ a < b) : b ≤ a := by
  rw [Int32.lt_iff_toInt_lt] at h; rw [Int32.le_iff_toInt_le]; omega
theorem i32_lt {a b : Int32} (h : a < b) : a ≤ b ∧ ¬ b ≤ a := by
  rw [Int32.lt_iff_toInt_lt] at h; rw [Int32.le_iff_toInt_le, Int32.le_iff_toInt_le]; omega
theorem bst_best {d : Nat → Bool} {f : Nat → Int32} : ∀ n, Best d f 0 n (bst d f n) := by
  intro n
  induction n with
  | zero => left; exact ⟨rfl, fun j _ h => absurd h (by omega)⟩
  | succ n ih =>
    show Best d f 0 (n + 1) (if d n = true then (match bst d f n with | none => some n | some k => if f k ≤ f n then some k else some n) else bst d f n)
    by_cases hd : d n = true
    · rw [if_pos hd]
      rcases ih with ⟨e, hn⟩ | ⟨k, e, -, hk, dk, hb⟩
      · rw [e]
        right
        refine ⟨n, rfl, by omega, by omega, hd, fun j _ hj dj => ?_⟩
        by_cases ej : j = n
        · subst ej; exact ⟨Int32.le_refl _, fun q => absurd q (by omega)⟩
        · have := hn j (by omega) (by omega)
          rw [this] at dj; cases dj
      · rw [e]
        dsimp only
        by_cases c : f k ≤ f n
        · rw [if_pos c]
          right
          refine ⟨k, rfl, by omega, by omega, dk, fun j _ hj dj => ?_⟩
          by_cases ej : j = n
          · subst ej; exact ⟨c, fun q => absurd q (by omega)⟩
          · exact hb j (by omega) (by omega) dj
        · rw [if_neg c]
          right
          refine ⟨n, rfl, by omega, by omega, hd, fun j _ hj dj => ?_⟩
          by_cases ej : j = n
          · subst ej; exact ⟨Int32.le_refl _, fun q => absurd q (by omega)⟩
          · obtain ⟨h1, -⟩ := hb j (by omega) (by omega) dj
            exact ⟨i32_tr (i32_nle c) h1, fun _ q => c (i32_tr h1 q)⟩
    · rw [if_neg hd]
      have hd' : d n = false := by cases h : d n; rfl; exact absurd h hd
      rcases ih with ⟨e, hn⟩ | ⟨k, e, h0, hk, dk, hb⟩
      · left
        refine ⟨e, fun j h1 h2 => ?_⟩
        by_cases ej : j = n
        · subst ej; exact hd'
        · exact hn j h1 (by omega)
      · right
        refine ⟨k, e, h0, by omega, dk, fun j h1 h2 dj => ?_⟩
        by_cases ej : j = n
        · subst ej; exact absurd dj hd
        · exact hb j h1 (by omega) dj
theorem bst_lt {d : Nat → Bool} {f : Nat → Int32} {n k : Nat} (h : bst d f n = some k) : k < n ∧ d k = true := by
  rcases bst_best (d := d) (f := f) n with ⟨e, -⟩ | ⟨k', e, h1, h2, dk, -⟩
  · rw [h] at e; cases e
  · rw [h] at e; cases e; exact ⟨h2, dk⟩
def duC (h : xH) (n : Nat) : Bool := decide (¬ h (10 + n) 2 ≤ 0 ∧ ¬ h 0 5 - h (10 + n) 3 < h 0 8)
def bC (h : xH) : Nat → Option Nat := bst (duC h) (fun i => h (10 + i) 3)
theorem C_first {h : xH} {K : Option Nat → xH → Prop} (hK : K ((bC h 6).map (fun k => 10 + k)) h) : w_X5_firstWithDueRepeats h K := by
  have loop : ∀ d i, i + d = 6 → w_X5_firstWithDueRepeats_4 K (d + 1) ((bC h i).map (fun k => 10 + k)) (nI i) h := by
    intro d
    induction d with
    | zero =>
      intro i hi
      have h6 : i = 6 := by omega
      subst h6
      rw [w_X5_firstWithDueRepeats_4_s]
      refine ⟨fun _ => ⟨fun q => ?_, fun k q => ?_⟩, fun c => absurd (nI_le (Nat.le_refl 6) (by decide)) c⟩
      · rw [q] at hK; exact hK
      · rw [q] at hK; exact hK
    | succ d ih =>
      intro i hi
      have h6 : i < 6 := by omega
      have nx := ih (i + 1) (by omega)
      rw [w_X5_firstWithDueRepeats_4_s, nI_clamp (by omega)]
      have hs : bC h (i + 1) = (if duC h i = true then (match bC h i with | none => some i | some k => if h (10 + k) 3 ≤ h (10 + i) 3 then some k else some i) else bC h i) := rfl
      have p69 : ∀ r : Option Nat, r = (bC h (i + 1)).map (fun k => 10 + k) → w_X5_firstWithDueRepeats_69 K (w_X5_firstWithDueRepeats_4 K (d + 1)) r (nI i) h := by
        rintro r rfl x rfl
        rw [nI_1]
        exact nx
      have p44 : duC h i = false → w_X5_firstWithDueRepeats_44 K (w_X5_firstWithDueRepeats_4 K (d + 1)) ((bC h i).map (fun k => 10 + k)) (nI i) (10 + i) h := by
        intro hd
        refine ⟨fun _ => p69 _ ?_, fun q => absurd rfl q⟩
        rw [hs, hd, if_neg (by decide)]
      refine ⟨fun c => absurd c (nI_ge h6 (by decide)), fun _ => ⟨vp_in_nI h6 (by decide), fun c1 => p44 ?_, fun c1 => ⟨fun c2 => p44 ?_, fun c2 => ?_⟩⟩⟩
      · unfold duC; exact decide_eq_false (fun q => q.1 c1)
      · unfold duC; exact decide_eq_false (fun q => q.2 c2)
      · have hd : duC h i = true := by unfold duC; exact decide_eq_true ⟨c1, c2⟩
        rw [hs, if_pos hd] at p69
        refine ⟨fun q => absurd q (by decide), fun _ => ⟨fun e => p69 _ ?_, fun k e => ?_⟩⟩
        · cases hb : bC h i with
          | none => rfl
          | some k => rw [hb] at e; cases e
        · cases hb : bC h i with
          | none => rw [hb] at e; cases e
          | some k0 =>
            rw [hb] at e p69
            have ek : 10 + k0 = k := by
              have := Option.some.inj e
              exact this
            subst ek
            dsimp only at p69
            refine ⟨fun c3 => p69 _ ?_, fun c3 => p69 _ ?_⟩
            · rw [if_pos c3]; rfl
            · rw [if_neg c3]; rfl
  exact ⟨7, loop 6 0 rfl⟩
def cDueL : Nat → xH → xH
  | 0, h => h
  | n + 1, h => match bC h 6 with | none => h | some k => cDueL n (cTell (10 + k) h)
theorem C_tellDue {h : xH} {K : Unit → xH → Prop} (hK : K () (cDueL 6 h)) : w_X5_tellDueRepeats h K := by
  have loop : ∀ d i, i + d = 6 → ∀ g, K () (cDueL d g) → w_X5_tellDueRepeats_2 K (d + 1) (nI i) g := by
    intro d
    induction d with
    | zero =>
      intro i hi g hg
      have h6 : i = 6 := by omega
      subst h6
      rw [w_X5_tellDueRepeats_2_s]
      exact ⟨fun _ => hg, fun c => absurd (nI_le (Nat.le_refl 6) (by decide)) c⟩
    | succ d ih =>
      intro i hi g hg
      rw [w_X5_tellDueRepeats_2_s]
      refine ⟨fun c => absurd c (nI_ge (show i < 6 by omega) (by decide)), fun _ => C_first ?_⟩
      have hg2 : K () (match bC g 6 with | none => g | some k => cDueL d (cTell (10 + k) g)) := hg
      cases hb : bC g 6 with
      | none =>
        rw [hb] at hg2
        refine ⟨?_, fun _ => hg2, ?_⟩
        · intro k q; cases q
        · intro k q; cases q
      | some k0 =>
        rw [hb] at hg2
        have hk := (bst_lt hb).1
        refine ⟨?_, fun q => (by cases q), ?_⟩
        · intro k q
          have : 10 + k0 = k := Option.some.inj q
          omega
        · intro k q
          have e : 10 + k0 = k := Option.some.inj q
          subst e
          refine C_tell ?_
          rintro x rfl
          rw [nI_1]
          exact ih (i + 1) (by omega) _ hg2
  exact ⟨7, loop 6 0 rfl h hK⟩
def cGive : Nat → xH → xH
  | 0, h => h
  | n + 1, h => if cGive n h 0 6 ≤ cGive n h (10 + n) 1 then cGive n h else xup (cGive n h) (10 + n) 1 (cGive n h (10 + n) 1 + 1)
theorem C_give {h : xH} {K : Unit → xH → Prop} (hK : K () (cGive 6 h)) : w_X5_giveTokens h K := by
  have loop : ∀ d i, i + d = 6 → w_X5_giveTokens_2 K (d + 1) (nI i) (cGive i h) := by
    intro d
    induction d with
    | zero =>
      intro i hi
      have h6 : i = 6 := by omega
      subst h6
      rw [w_X5_giveTokens_2_s]
      exact ⟨fun _ => hK, fun c => absurd (nI_le (Nat.le_refl 6) (by decide)) c⟩
    | succ d ih =>
      intro i hi
      have nx := ih (i + 1) (by omega)
      rw [show cGive (i + 1) h = if cGive i h 0 6 ≤ cGive i h (10 + i) 1 then cGive i h else xup (cGive i h) (10 + i) 1 (cGive i h (10 + i) 1 + 1) from rfl] at nx
      rw [w_X5_giveTokens_2_s, nI_clamp (by omega)]
      refine ⟨fun c => absurd c (nI_ge (show i < 6 by omega) (by decide)), fun _ => ⟨vp_in_nI (show i < 6 by omega) (by decide), fun c => ?_, fun c => ?_⟩⟩
      · rintro x rfl
        rw [if_pos c] at nx
        rw [nI_1]; exact nx
      · rintro h2 rfl x rfl
        rw [if_neg c] at nx
        rw [nI_1]; exact nx
  exact ⟨7, loop 6 0 rfl⟩
theorem xup_id {m : xH} {a b : Nat} {x : Int32} (h : x = m a b) : xup m a b x = m := by
  funext p q
  unfold xup
  by_cases h1 : p = a
  · by_cases h2 : q = b
    · rw [if_pos h1, if_pos h2, h1, h2, h]
    · rw [if_pos h1, if_neg h2]
  · rw [if_neg h1]
def cAge : Nat → xH → xH
  | 0, h => h
  | n + 1, h => if ¬ cAge n h (30 + n) 4 = 0 ∧ ¬ cAge n h (30 + n) 2 = cAge n h (30 + n + 20) 0 ∧ ¬ cAge n h 0 5 - cAge n h (30 + n) 6 < cAge n h (30 + n) 4 then cRot (30 + n) (cAge n h) else cAge n h
theorem C_age {h : xH} {K : Unit → xH → Prop} (hK : K () (cAge 4 h)) : w_X5_rotateAgedFiles h K := by
  have loop : ∀ d i, i + d = 4 → w_X5_rotateAgedFiles_2 K (d + 1) (nI i) (cAge i h) := by
    intro d
    induction d with
    | zero =>
      intro i hi
      have h6 : i = 4 := by omega
      subst h6
      rw [w_X5_rotateAgedFiles_2_s]
      exact ⟨fun _ => hK, fun c => absurd (nI_le (Nat.le_refl 4) (by decide)) c⟩
    | succ d ih =>
      intro i hi
      have nx := ih (i + 1) (by omega)
      rw [show cAge (i + 1) h = if ¬ cAge i h (30 + i) 4 = 0 ∧ ¬ cAge i h (30 + i) 2 = cAge i h (30 + i + 20) 0 ∧ ¬ cAge i h 0 5 - cAge i h (30 + i) 6 < cAge i h (30 + i) 4 then cRot (30 + i) (cAge i h) else cAge i h from rfl] at nx
      rw [w_X5_rotateAgedFiles_2_s, nI_clamp (by omega)]
      have hin : vp_in (nI i) 4 := vp_in_nI (by omega) (by decide)
      refine ⟨fun c => absurd c (nI_ge (show i < 4 by omega) (by decide)), fun _ => ⟨hin, C_isAged (fun hc => ⟨fun q => absurd q (by decide), fun _ => ⟨hin, C_turn ?_⟩⟩) (fun hc => ⟨fun _ => ?_, fun q => absurd rfl q⟩)⟩⟩
      · rintro x rfl
        unfold cAged at hc
        rw [if_pos hc] at nx
        rw [nI_1]; exact nx
      · rintro x rfl
        unfold cAged at hc
        rw [if_neg hc] at nx
        rw [nI_1]; exact nx
  exact ⟨5, loop 4 0 rfl⟩
def cSecG (h : xH) : xH := if ¬ h 0 7 ≤ 0 ∧ h 0 5 - h 0 5 / h 0 7 * h 0 7 = 0 then cGive 6 h else h
def cSec (h : xH) : xH := cAge 4 (cDueL 6 (cSecG (xup h 0 5 (h 0 5 + 1))))
theorem C_sec {h : xH} {K : Unit → xH → Prop} (hK : K () (cSec h)) : w_X5_passOneSecond h K := by
  rintro h1 rfl
  unfold cSec at hK
  generalize xup h 0 5 (h 0 5 + 1) = g at hK ⊢
  have p33 : ∀ q, K () (cAge 4 (cDueL 6 q)) → w_X5_passOneSecond_33 K q := fun q hq => C_tellDue (C_age hq)
  refine ⟨fun c => p33 _ ?_, fun c => ⟨fun z => c (by rw [z]; exact Int32.le_refl 0), fun c2 => C_give (p33 _ ?_), fun c2 => p33 _ ?_⟩⟩
  · rw [cSecG, if_neg (fun q => q.1 c)] at hK; exact hK
  · rw [cSecG, if_pos ⟨c, c2⟩] at hK; exact hK
  · rw [cSecG, if_neg (fun q => c2 q.2)] at hK; exact hK
def cSecs : Nat → xH → xH
  | 0, h => h
  | n + 1, h => cSecs n (cSec h)
theorem C_rots {h : xH} {K : Int32 → xH → Prop} (hK : K (xsum h) h) : w_X5_rotationsOfAllFiles h K := by
  refine ⟨5, ?_⟩
  have st : ∀ (i d : Nat) (v : Int32), i < 4 → w_X5_rotationsOfAllFiles_4 K d (v + h (30 + i) 9) (nI (i + 1)) h → w_X5_rotationsOfAllFiles_4 K (d + 1) v (nI i) h := by
    intro i d v hi hn
    rw [w_X5_rotationsOfAllFiles_4_s, nI_clamp (by omega)]
    refine ⟨fun c => absurd c (nI_ge hi (by decide)), fun _ => ⟨vp_in_nI hi (by decide), ?_⟩⟩
    rintro x5 rfl x6 rfl
    rw [nI_1]; exact hn
  refine st 0 4 0 (by decide) (st 1 3 _ (by decide) (st 2 2 _ (by decide) (st 3 1 _ (by decide) ?_)))
  rw [w_X5_rotationsOfAllFiles_4_s]
  refine ⟨fun _ => ?_, fun c => absurd (nI_le (Nat.le_refl 4) (by decide)) c⟩
  rw [Int32.zero_add]
  exact hK
theorem C_pass {n : Nat} {h : xH} {K : Int32 → xH → Prop} (h1 : 1 ≤ n) (h2 : n ≤ 100) (hK : K (xsum (cSecs n h) - xsum h) (cSecs n h)) : w_X5_pass (nI n) h K := by
  have loop : ∀ d i, i + d = n → ∀ g, K (xsum (cSecs d g) - xsum h) (cSecs d g) → w_X5_pass_27 (nI n) K (d + 1) (xsum h) (nI i) g := by
    intro d
    induction d with
    | zero =>
      intro i hi g hg
      have e : i = n := by omega
      subst e
      rw [w_X5_pass_27_s]
      exact ⟨fun _ => C_rots hg, fun c => absurd (nI_le (Nat.le_refl i) (by omega)) c⟩
    | succ d ih =>
      intro i hi g hg
      rw [w_X5_pass_27_s]
      refine ⟨fun c => absurd c (nI_ge (show i < n by omega) (by omega)), fun _ => C_sec ?_⟩
      rintro x rfl
      rw [nI_1]
      exact ih (i + 1) (by omega) _ hg
  refine C_isWithin (fun _ _ => ⟨fun q => absurd q (by decide), fun _ => C_rots ⟨n + 1, loop n 0 (by omega) h hK⟩⟩) (fun q => absurd q (fun z => by rcases z with z | z; exact nI_nlt (a := n) (b := 1) h1 (by omega) z; exact (nI_rng (n := n) (hi := 100) h2 (by decide)).2 z))
theorem rng {p : Int32} {hi : Nat} (hh : hi < 2 ^ 31) (h0 : ¬ p < 0) (h1 : ¬ nI hi < p) : ∃ j, j ≤ hi ∧ p = nI j := by
  obtain ⟨j, hj, e⟩ := nI_of h0
  subst e
  refine ⟨j, ?_, rfl⟩
  rcases Nat.lt_or_ge hi j with q | q
  · exact absurd (nI_lt q hj) h1
  · exact q
theorem C_at {p : Int32} {n : Nat} (hn : n < 2 ^ 31) {A B : Prop} {X : Nat → Prop} (h1 : ∀ j, j < n → p = nI j → X j) (h0 : (∀ j, j < n → ¬ p = nI j) → A) (hX : ∀ j, j < n → p = nI j → X j → B) : (p < 0 → A) ∧ (¬ p < 0 → (p < nI n → B) ∧ (¬ p < nI n → A)) := by
  refine ⟨fun c => h0 (fun j hj e => ?_), fun c => ⟨fun c2 => ?_, fun c2 => h0 (fun j hj e => ?_)⟩⟩
  · rw [e] at c; exact nI_pos (by omega) c
  · obtain ⟨j, hj, e⟩ := nI_of c
    have hjn : j < n := by
      rw [e] at c2
      exact (nI_ltI hj hn).mp c2
    exact hX j hjn e (h1 j hjn e)
  · rw [e] at c2; exact c2 (nI_lt hj hn)
theorem C_senderAt {p : Int32} {h : xH} {K : Nat → xH → Prop} (h1 : ∀ j, j < 6 → p = nI j → K (10 + j) h) (h0 : (∀ j, j < 6 → ¬ p = nI j) → False) : w_X5_senderAt p h K :=
  C_at (n := 6) (by decide) (X := fun j => K (10 + j) h) h1 h0 (fun j hj e hk => by rw [e, nI_clamp (by omega)]; exact ⟨vp_in_nI hj (by decide), hk⟩)
theorem C_ruleAt {p : Int32} {h : xH} {K : Nat → xH → Prop} (h1 : ∀ j, j < 6 → p = nI j → K (20 + j) h) (h0 : (∀ j, j < 6 → ¬ p = nI j) → False) : w_X5_ruleAt p h K :=
  C_at (n := 6) (by decide) (X := fun j => K (20 + j) h) h1 h0 (fun j hj e hk => by rw [e, nI_clamp (by omega)]; exact ⟨vp_in_nI hj (by decide), hk⟩)
theorem C_fileAt {p : Int32} {h : xH} {K : Nat → xH → Prop} (h1 : ∀ j, j < 4 → p = nI j → K (30 + j) h) (h0 : (∀ j, j < 4 → ¬ p = nI j) → False) : w_X5_fileAt p h K :=
  C_at (n := 4) (by decide) (X := fun j => K (30 + j) h) h1 h0 (fun j hj e hk => by rw [e, nI_clamp (by omega)]; exact ⟨vp_in_nI hj (by decide), hk⟩)
theorem C_rng {p : Int32} (lo hi : Nat) (hh : hi < 2 ^ 31) (hl : lo ≤ hi) {m : xH} {K : Int32 → xH → Prop} (h1 : ∀ j, lo ≤ j → j ≤ hi → p = nI j → K 1 m) (h0 : (∀ j, lo ≤ j → j ≤ hi → ¬ p = nI j) → K 0 m) : w_X5_isWithin p (nI lo) (nI hi) m K := by
  refine C_isWithin (fun a b => ?_) (fun q => h0 (fun j h2 h3 e => ?_))
  · obtain ⟨j, hj, e⟩ := rng hh (fun z => a (by rw [Int32.lt_iff_toInt_lt] at *; rw [nI_toInt (by omega)]; have : (0 : Int32).toInt = 0 := by decide
                                                omega)) b
    refine h1 j ?_ hj e
    rcases Nat.lt_or_ge j lo with z | z
    · exact absurd (by rw [e]; exact nI_lt z (by omega)) a
    · exact z
  · rw [e] at q
    rcases q with q | q
    · exact nI_nlt h2 (by omega) q
    · exact nI_nlt h3 hh q
theorem T1 {A B : Prop} (h : B) : ((1 : Int32) = 0 → A) ∧ (¬ (1 : Int32) = 0 → B) := ⟨fun q => absurd q (by decide), fun _ => h⟩
theorem T0 {A B : Prop} (h : A) : ((0 : Int32) = 0 → A) ∧ (¬ (0 : Int32) = 0 → B) := ⟨fun _ => h, fun q => absurd rfl q⟩
theorem T2 {A B : Prop} (h : B) : ((2 : Int32) = 0 → A) ∧ (¬ (2 : Int32) = 0 → B) := ⟨fun q => absurd q (by decide), fun _ => h⟩
theorem C_has {p : Int32} {h : xH} {n : Nat} (hn : h 6 2 = nI n) (h4 : n ≤ 400) {K : Int32 → xH → Prop} (h1 : ∀ j, j < n → p = nI j → K 1 h) (h0 : (∀ j, j < n → ¬ p = nI j) → K 0 h) : w_X1_has p h K := by
  refine ⟨fun c => h0 (fun j hj e => ?_), fun c => ⟨fun c2 => h0 (fun j hj e => ?_), fun c2 => ?_⟩⟩
  · rw [e] at c; exact nI_pos (by omega) c
  · rw [e, hn] at c2; exact absurd c2 (nI_ge hj (by omega))
  · obtain ⟨j, hj, e⟩ := nI_of c
    refine h1 j ?_ e
    rw [e, hn] at c2
    rcases Nat.lt_or_ge j n with q | q
    · exact q
    · exact absurd (nI_le q hj) c2
theorem C_ldAt {j : Nat} (hj : j < 400) {A B : Prop} (hB : B) : (nI j < 0 → A) ∧ (¬ nI j < 0 → ((400 : Int32) ≤ nI j → A) ∧ (¬ (400 : Int32) ≤ nI j → vp_in (nI j) 400 ∧ B)) :=
  ⟨fun c => absurd c (nI_pos (by omega)), fun _ => ⟨fun c => absurd c (nI_ge hj (by decide)), fun _ => ⟨vp_in_nI hj (by decide), hB⟩⟩⟩
def ledN (p : Int32) (r : Nat → Int32) : Nat → Int32
  | 0 => 0
  | n + 1 => if r n = p then ledN p r n + 1 else ledN p r n
theorem ledN_congr {p : Int32} {r r' : Nat → Int32} : ∀ n, (∀ j, j < n → r j = r' j) → ledN p r n = ledN p r' n := by
  intro n
  induction n with
  | zero => intro _; rfl
  | succ n ih =>
    intro hr
    simp only [ledN, hr n (by omega), ih (fun j hj => hr j (by omega))]
theorem C_entriesWith {p : Int32} {h : xH} {n : Nat} (hn : h 6 2 = nI n) (h4 : n ≤ 400) {K : Int32 → xH → Prop} (hK : K (ledN p (h 7) n) h) : w_X1_entriesWith p h K := by
  have loop : ∀ d i, i + d = n → w_X1_entriesWith_4 p K (d + 1) (ledN p (h 7) i) (nI i) h := by
    intro d
    induction d with
    | zero =>
      intro i hi
      have e : i = n := by omega
      subst e
      rw [w_X1_entriesWith_4_s, hn]
      exact ⟨fun _ => hK, fun c => absurd (nI_le (Nat.le_refl i) (by omega)) c⟩
    | succ d ih =>
      intro i hi
      have nx := ih (i + 1) (by omega)
      rw [show ledN p (h 7) (i + 1) = if h 7 i = p then ledN p (h 7) i + 1 else ledN p (h 7) i from rfl] at nx
      rw [w_X1_entriesWith_4_s, hn, nI_clamp (by omega)]
      refine ⟨fun c => absurd c (nI_ge (show i < n by omega) (by omega)), fun _ => ⟨fun c => absurd c (nI_ge (show i < 400 by omega) (by decide)), fun _ => ⟨vp_in_nI (show i < 400 by omega) (by decide), fun c => ?_, fun c => ?_⟩⟩⟩
      · rintro x5 rfl x6 rfl
        rw [if_pos c] at nx
        rw [nI_1]; exact nx
      · rintro x6 rfl
        rw [if_neg c] at nx
        rw [nI_1]; exact nx
  exact ⟨n + 1, loop n 0 (by omega)⟩
def cCap (p : Int32) : Nat → xH → xH
  | 0, h => h
  | n + 1, h => if cCap p n h (10 + n) 1 ≤ p then cCap p n h else xup (cCap p n h) (10 + n) 1 p
theorem cCap_o {p : Int32} {h : xH} : ∀ n, n ≤ 6 → ∀ a, (a < 10 ∨ 16 ≤ a) → cCap p n h a = h a := by
  intro n
  induction n with
  | zero => intro _ a _; rfl
  | succ n ih =>
    intro hn a ha
    show (if _ then _ else _ : xH) a = h a
    split
    · exact ih (by omega) a ha
    · rw [xup_row (by omega)]; exact ih (by omega) a ha
theorem C_cap {p0 p1 v : Int32} {h : xH} {K : Int32 → xH → Prop} (hK : K v (cCap p0 6 h)) : ∃ n : Nat, w_X5_setRate_48 p0 p1 K n v 0 h := by
  have loop : ∀ d i, i + d = 6 → w_X5_setRate_48 p0 p1 K (d + 1) v (nI i) (cCap p0 i h) := by
    intro d
    induction d with
    | zero =>
      intro i hi
      have h6 : i = 6 := by omega
      subst h6
      rw [w_X5_setRate_48_s]
      exact ⟨fun _ => hK, fun c => absurd (nI_le (Nat.le_refl 6) (by decide)) c⟩
    | succ d ih =>
      intro i hi
      have nx := ih (i + 1) (by omega)
      rw [show cCap p0 (i + 1) h = if cCap p0 i h (10 + i) 1 ≤ p0 then cCap p0 i h else xup (cCap p0 i h) (10 + i) 1 p0 from rfl] at nx
      rw [w_X5_setRate_48_s, nI_clamp (by omega)]
      refine ⟨fun c => absurd c (nI_ge (show i < 6 by omega) (by decide)), fun _ => ⟨vp_in_nI (show i < 6 by omega) (by decide), fun c => ?_, fun c => ?_⟩⟩
      · rintro x rfl
        rw [if_pos c] at nx
        rw [nI_1]; exact nx
      · rintro h2 rfl x rfl
        rw [if_neg c] at nx
        rw [nI_1]; exact nx
  exact ⟨7, loop 6 0 rfl⟩
def cPutR (k : Nat) (a b d e : Int32) (h : xH) : xH := xup (xup (xup (xup (xup h k 0 1) k 1 a) k 2 b) k 3 d) k 4 e
def numS (r : Nat → Int32) : Nat → Int32
  | 0 => 0
  | n + 1 => if r n = 0 then numS r n else numS r n + 1
theorem numS_congr {r r' : Nat → Int32} : ∀ n, (∀ j, j < n → r j = r' j) → numS r n = numS r' n := by
  intro n
  induction n with
  | zero => intro _; rfl
  | succ n ih =>
    intro hr
    simp only [numS, hr n (by omega), ih (fun j hj => hr j (by omega))]
theorem C_num {h : xH} {K : Int32 → xH → Prop} (hK : K (numS (fun i => h (20 + i) 0) 6) h) : w_X5_rulesThatAreSet h K := by
  have loop : ∀ d i, i + d = 6 → w_X5_rulesThatAreSet_4 K (d + 1) (numS (fun i => h (20 + i) 0) i) (nI i) h := by
    intro d
    induction d with
    | zero =>
      intro i hi
      have h6 : i = 6 := by omega
      subst h6
      rw [w_X5_rulesThatAreSet_4_s]
      exact ⟨fun _ => hK, fun c => absurd (nI_le (Nat.le_refl 6) (by decide)) c⟩
    | succ d ih =>
      intro i hi
      have nx := ih (i + 1) (by omega)
      rw [show numS (fun i => h (20 + i) 0) (i + 1) = if h (20 + i) 0 = 0 then numS (fun i => h (20 + i) 0) i else numS (fun i => h (20 + i) 0) i + 1 from rfl] at nx
      rw [w_X5_rulesThatAreSet_4_s, nI_clamp (by omega)]
      refine ⟨fun c => absurd c (nI_ge (show i < 6 by omega) (by decide)), fun _ => ⟨vp_in_nI (show i < 6 by omega) (by decide), fun c => ?_, fun c => ?_⟩⟩
      · rintro x rfl
        rw [if_pos c] at nx
        rw [nI_1]; exact nx
      · rintro x6 rfl x rfl
        rw [if_neg c] at nx
        rw [nI_1]; exact nx
  exact ⟨7, loop 6 0 rfl⟩
theorem nb01 {x : Int32} (h : x = 0 ∨ x = 1) : narrow .boolean (.int x) = .int x := by
  rcases h with rfl | rfl <;> decide +kernel
def cLim (k : Nat) (a b d : Int32) (h : xH) : xH := if h k 8 ≤ d then xup (xup (xup h k 3 a) k 4 b) k 5 d else xup (xup (xup (xup h k 3 a) k 4 b) k 5 d) k 8 d
theorem cLim_o {k : Nat} {x y z : Int32} {h : xH} : ∀ a, a ≠ k → cLim k x y z h a = h a := by
  intro a ha
  unfold cLim
  split
  · rw [xup_row ha, xup_row ha, xup_row ha]
  · rw [xup_row ha, xup_row ha, xup_row ha, xup_row ha]
theorem C_fwdAt {k : Nat} {h : xH} {K : Int32 → xH → Prop} (hk : k < 400) (hK : K (h 5 k) h) : w_X0_lineAt (nI k) h K := by
  refine ⟨fun c => absurd c (nI_pos (by omega)), fun _ => ⟨fun c => absurd c (nI_ge hk (by decide)), fun _ => ⟨vp_in_nI hk (by decide), ?_⟩⟩⟩
  rw [nI_clamp (by omega)]; exact hK
def pq : Nat → Int32
  | 0 => -1
  | n + 1 => nI n
theorem pq_1 (q : Nat) : pq q + 1 = nI q := by
  cases q with
  | zero => decide +kernel
  | succ n => exact nI_1 n
theorem pq_m (q : Nat) : nI q - 1 = pq q := by
  cases q with
  | zero => decide +kernel
  | succ n => exact nI_pred n
theorem C_startOf {k q : Nat} {h : xH} {K : Int32 → xH → Prop} (hq : q < 6) (hK : K (h (k + 20) q) h) : w_X2_startOf k (pq q) h K := by
  rintro x rfl
  rw [pq_1, nI_clamp (by omega)]
  exact ⟨fun c => absurd c (nI_pos (by omega)), fun _ => ⟨fun c => absurd c (nI_ge hq (by decide)), fun _ => ⟨vp_in_nI hq (by decide), hK⟩⟩⟩
def endC (k q : Nat) (h : xH) : Int32 := match q with | 0 => h k 2 | q + 1 => h (k + 20) q
theorem C_linesOf {k q : Nat} {h : xH} {K : Int32 → xH → Prop} (hq : q < 6) (hK : K (endC k q h - h (k + 20) q) h) : w_X2_linesOf k (pq q) h K := by
  cases q with
  | zero => exact ⟨fun _ => C_startOf (q := 0) hq hK, fun c => absurd rfl c⟩
  | succ q =>
    refine ⟨fun c => absurd c (nI_m1 (by omega)), fun _ => ?_⟩
    rw [show pq (q + 1) - 1 = pq q from pq_m q]
    exact C_startOf (by omega) (C_startOf (q := q + 1) hq hK)
theorem gen_q {p1 : Int32} {g : Nat} (hg : g ≤ 5) (a : ¬ p1 < -1) (b : ¬ nI g ≤ p1) : ∃ q, q < 6 ∧ p1 = pq q := by
  by_cases c : p1 < 0
  · refine ⟨0, by decide, ?_⟩
    show p1 = -1
    rw [Int32.lt_iff_toInt_lt] at a c
    apply Int32.toInt_inj.mp
    have e0 : (0 : Int32).toInt = 0 := by decide
    have e1 : (-1 : Int32).toInt = -1 := by decide
    omega
  · obtain ⟨i, hi, rfl⟩ := nI_of c
    refine ⟨i + 1, ?_, rfl⟩
    rcases Nat.lt_or_ge i 5 with z | z
    · omega
    · exact absurd (nI_le (by omega) hi) b
