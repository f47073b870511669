/-! PURE PART 2: bits, the forwarder, goes and route -/
def bt (x : Int32) (i : Nat) : Bool := x.toBitVec.getLsbD i
theorem b_ext {x y : Int32} (h : ∀ i, i < 32 → bt x i = bt y i) : x = y := Int32.toBitVec_inj.mp (BitVec.eq_of_getLsbD_eq (fun i hi => h i hi))
theorem b_or (x y : Int32) (i : Nat) : bt (x ||| y) i = (bt x i || bt y i) := by unfold bt; rw [Int32.toBitVec_or, BitVec.getLsbD_or]
theorem b_and (x y : Int32) (i : Nat) : bt (x &&& y) i = (bt x i && bt y i) := by unfold bt; rw [Int32.toBitVec_and, BitVec.getLsbD_and]
theorem b_0 (i : Nat) : bt 0 i = false := BitVec.getLsbD_zero
theorem b_1 : ∀ i, i < 32 → bt 1 i = decide (i = 0) := by decide +kernel
theorem s_l : ∀ n, n < 32 → ((nI n &&& 31).toBitVec.smod 32).toNat = n := by decide +kernel
theorem b_shl (n : Nat) (hn : n < 32) (x : Int32) {i : Nat} (hi : i < 32) : bt (x <<< (nI n &&& 31)) i = (decide (n ≤ i) && bt x (i - n)) := by
  unfold bt
  rw [Int32.toBitVec_shiftLeft]
  show (x.toBitVec <<< ((nI n &&& 31).toBitVec.smod 32).toNat).getLsbD i = _
  rw [s_l n hn, BitVec.getLsbD_shiftLeft]
  rcases Nat.lt_or_ge i n with h | h
  · simp [h, Nat.not_le.mpr h]
  · simp [hi, h, Nat.not_lt.mpr h]
theorem b_sshr (n : Nat) (hn : n < 32) (x : Int32) {i : Nat} (hi : i < 32) : bt (x >>> (nI n &&& 31)) i = if n + i < 32 then bt x (n + i) else bt x 31 := by
  unfold bt
  rw [Int32.toBitVec_shiftRight]
  show (x.toBitVec.sshiftRight ((nI n &&& 31).toBitVec.smod 32).toNat).getLsbD i = _
  rw [s_l n hn, BitVec.getLsbD_sshiftRight, BitVec.msb_eq_getLsbD_last]
  simp [hi]
theorem bit_1 (s : Int32) {t : Nat} (ht : t < 32) : ((s >>> (nI t &&& 31)) &&& 1) = if bt s t = true then 1 else 0 := by
  apply b_ext
  intro i hi
  rw [b_and, b_1 i hi, b_sshr t ht s hi]
  by_cases h0 : i = 0
  · subst h0
    rw [Nat.add_zero, if_pos ht]
    cases h : bt s t
    · simp [b_0]
    · simp [b_1 0 (by decide)]
  · simp only [h0, decide_false, Bool.and_false]
    cases h : bt s t
    · simp [b_0]
    · simp [b_1 i hi, h0]
theorem bit_z (s : Int32) {t : Nat} (ht : t < 32) : ((s >>> (nI t &&& 31)) &&& 1) = 0 ↔ bt s t = false := by
  rw [bit_1 s ht]
  cases h : bt s t <;> simp
theorem bit_o (s : Int32) {t : Nat} (ht : t < 32) : ((s >>> (nI t &&& 31)) &&& 1) = 1 ↔ bt s t = true := by
  rw [bit_1 s ht]
  cases h : bt s t <;> simp
theorem bit_set (s : Int32) {t u : Nat} (ht : t < 32) (hu : u < 32) : bt (s ||| ((1 : Int32) <<< (nI t &&& 31))) u = (bt s u || decide (u = t)) := by
  rw [b_or, b_shl t ht 1 hu]
  congr 1
  rcases Nat.lt_or_ge u t with h | h
  · simp [Nat.not_le.mpr h]; omega
  · rw [b_1 _ (by omega)]
    simp [h]; omega
-- the class's forwarder
def cTake (line : Int32) (h : xH) : xH := if 30 ≤ h 4 1 - h 4 3 ∨ h 4 1 < 0 ∨ 400 ≤ h 4 1 then xup h 4 4 (h 4 4 + 1) else xup (xup h 5 (h 4 1).toNatClampNeg line) 4 1 (h 4 1 + 1)
theorem C_take {line : Int32} {h : xH} {K : Unit → xH → Prop} (hK : K () (cTake line h)) : w_X0_take line h K := by
  have p56 : (30 ≤ h 4 1 - h 4 3 ∨ h 4 1 < 0 ∨ 400 ≤ h 4 1) → w_X0_take_56 line K h := by
    rintro c h7 rfl
    rw [cTake, if_pos c] at hK
    exact hK
  refine ⟨fun c => p56 (Or.inl c), fun c => ⟨fun c2 => p56 (Or.inr (Or.inl c2)), fun c2 => ⟨fun c3 => p56 (Or.inr (Or.inr c3)), fun c3 => ⟨?_, ?_⟩⟩⟩⟩
  · obtain ⟨j, hj, e⟩ := nI_of c2
    rw [e] at c3 ⊢
    exact vp_in_nI (by rcases Nat.lt_or_ge j 400 with q | q; exact q; exact absurd (nI_le q hj) c3) (by decide)
  · rintro h5 rfl h6 rfl
    rw [cTake, if_neg (by intro q; rcases q with q | q | q; exact c q; exact c2 q; exact c3 q)] at hK
    rw [xup_ne (Or.inl (by decide))]
    exact hK
def fFwd (line : Int32) (m : xH) : xH := if m 60 26 - m 60 28 < 30 then xup (xup m 85 (m 60 26).toNatClampNeg line) 60 26 (m 60 26 + 1) else xup m 60 29 (m 60 29 + 1)
theorem M_fwd {line : Int32} {m : xH} {K : Unit → xH → Prop} {t : Nat} (ht : m 60 26 = nI t) (h4 : t < 400) (hK : K () (fFwd line m)) : w_X6_forwards line m K := by
  refine ⟨fun c => ⟨by rw [ht]; exact vp_in_nI h4 (by decide), ?_⟩, fun c => ?_⟩
  · rintro h3 rfl h4 rfl
    rw [fFwd, if_pos c] at hK
    rw [xup_ne (Or.inl (by decide))]
    exact hK
  · rintro h5 rfl
    rw [fFwd, if_neg c] at hK
    exact hK
theorem M_linesOf {f : Nat} (hf : f < 4) {m : xH} {K : Int32 → xH → Prop} (hK : K (m 79 f - m 81 (7 * f)) m) : w_X6_linesOf (nI f) m K := by
  have e1 : (7 : Int32) * nI f = nI (7 * f) := pk_mul 7 f
  unfold w_X6_linesOf
  rw [e1, nI_clamp (by omega), nI_clamp (by omega)]
  exact ⟨vp_in_nI hf (by decide), vp_in_nI (by omega) (by decide), hK⟩
def fComeR (f : Nat) (length : Int32) (m : xH) : xH := if m 79 f - m 81 (7 * f) ≤ 0 ∨ m 78 f + length ≤ m 75 f then m else fRot f m
def fPut (f : Nat) (line length : Int32) (m : xH) : xH :=
  xup (xup (xup (xup m 82 (400 * f + (m 79 f).toNatClampNeg) line) 83 (400 * f + (m 79 f).toNatClampNeg) (m 60 1)) 79 f (m 79 f + 1)) 78 f (m 78 f + length)
def fCome (f : Nat) (line length : Int32) (m : xH) : xH := fPut f line length (fComeR f length m)
theorem M_come {f : Nat} (hf : f < 4) {line length : Int32} {m : xH} {K : Unit → xH → Prop} {e : Nat} (he : m 79 f = nI e) (h4 : e < 400) (hK : K () (fCome f line length m)) : w_X6_comesTo (nI f) line length m K := by
  have hin : vp_in (nI f) 4 := vp_in_nI hf (by decide)
  have p30 : ∀ g : xH, g 79 f = nI e → K () (fPut f line length g) → w_X6_comesTo_30 (nI f) line length K g := by
    intro g hg hk
    have e4 : (400 : Int32) * nI f + nI e = nI (400 * f + e) := by
      rw [show (400 : Int32) * nI f = nI (400 * f) from pk_mul 400 f, nI_add]
    unfold w_X6_comesTo_30
    rw [nI_clamp (by omega), hg, e4, nI_clamp (by omega)]
    refine ⟨hin, vp_in_nI (by omega) (by decide), ?_⟩
    rintro h11 rfl
    have e79 : xup g 82 (400 * f + e) line 79 f = nI e := by rw [xup_ne (Or.inl (by decide))]; exact hg
    rw [e79, e4, nI_clamp (by omega)]
    refine ⟨hin, vp_in_nI (by omega) (by decide), ?_⟩
    rintro h14 rfl
    refine ⟨hin, hin, ?_⟩
    rintro h17 rfl
    refine ⟨hin, hin, ?_⟩
    rintro h20 rfl
    have e1 : xup g 82 (400 * f + e) line 60 1 = g 60 1 := xup_ne (Or.inl (by decide))
    have e2 : xup (xup g 82 (400 * f + e) line) 83 (400 * f + e) (g 60 1) 79 f = g 79 f := by rw [xup_ne (Or.inl (by decide)), xup_ne (Or.inl (by decide))]
    rw [e1, e2]
    have e3 : xup (xup (xup g 82 (400 * f + e) line) 83 (400 * f + e) (g 60 1)) 79 f (g 79 f + 1) 78 f = g 78 f := by rw [xup_ne (Or.inl (by decide)), xup_ne (Or.inl (by decide)), xup_ne (Or.inl (by decide))]
    rw [e3]
    have e5 : (g 79 f).toNatClampNeg = e := by rw [hg]; exact nI_clamp (by omega)
    rw [fPut, e5] at hk
    exact hk
  refine M_linesOf hf ⟨fun c => ?_, fun c => ?_⟩
  · rw [fCome, fComeR, if_pos (Or.inl c)] at hK
    exact p30 m he hK
  · rw [nI_clamp (by omega)]
    refine ⟨hin, hin, fun c2 => ?_, fun c2 => ?_⟩
    · rw [fCome, fComeR, if_pos (Or.inr c2)] at hK
      exact p30 m he hK
    · rw [fCome, fComeR, if_neg (by intro q; rcases q with q | q; exact c q; exact c2 q)] at hK
      refine M_rot hf (p30 _ ?_ hK)
      have : fRot f m 79 f = m 79 f := by simp only [fRot]; grind
      rw [this]; exact he
-- goes
abbrev fFits (s f v : Int32) (r : Nat) (m : xH) : Prop := ¬ m 70 r = 0 ∧ ((m 71 r >>> (f &&& 31)) &&& 1) = 1 ∧ ¬ m 72 r < v ∧ (m 73 r = -1 ∨ m 73 r = s)
def fStep (s f v line len : Int32) (r : Nat) (p : Int32 × xH) : Int32 × xH :=
  if fFits s f v r p.2 ∧ ((p.1 >>> (p.2 74 r &&& 31)) &&& 1) = 0 then
    (p.1 ||| ((1 : Int32) <<< (p.2 74 r &&& 31)), if p.2 74 r = 4 then fFwd line p.2 else fCome (p.2 74 r).toNatClampNeg line len p.2)
  else p
def fGo (s f v line len : Int32) : Nat → Int32 × xH → Int32 × xH
  | 0, p => p
  | n + 1, p => fStep s f v line len n (fGo s f v line len n p)
/-- what the walk of goes needs at each rule: room for the line -/
def fRoom (r : Nat) (m : xH) : Prop := (m 74 r = 4 ∧ ∃ t : Nat, t < 400 ∧ m 60 26 = nI t) ∨ ∃ f : Nat, f < 4 ∧ m 74 r = nI f ∧ ∃ e : Nat, e < 400 ∧ m 79 f = nI e
theorem M_goes {s f v line len : Int32} {m : xH} {K : Int32 → xH → Prop} (hB : ∀ r, r < 6 → fFits s f v r (fGo s f v line len r (0, m)).2 → (((fGo s f v line len r (0, m)).1 >>> ((fGo s f v line len r (0, m)).2 74 r &&& 31)) &&& 1) = 0 → fRoom r (fGo s f v line len r (0, m)).2)
    (hK : K (fGo s f v line len 6 (0, m)).1 (fGo s f v line len 6 (0, m)).2) : w_X6_goes s f v line len m K := by
  have loop : ∀ d r, r + d = 6 → w_X6_goes_6 s f v line len K (d + 1) (fGo s f v line len r (0, m)).1 (nI r) (fGo s f v line len r (0, m)).2 := by
    intro d
    induction d with
    | zero =>
      intro r hr
      have hr6 : r = 6 := by omega
      subst hr6
      rw [w_X6_goes_6_s]
      exact ⟨fun _ => hK, fun c => absurd (nI_le (Nat.le_refl 6) (by decide)) c⟩
    | succ d ih =>
      intro r hr
      have hr6 : r < 6 := by omega
      have hin : vp_in (nI r) 6 := vp_in_nI hr6 (by decide)
      have nx := ih (r + 1) (by omega)
      have hBr := hB r hr6
      rw [w_X6_goes_6_s, nI_clamp (by omega)]
      rw [show fGo s f v line len (r + 1) (0, m) = fStep s f v line len r (fGo s f v line len r (0, m)) from rfl] at nx
      generalize fGo s f v line len r (0, m) = p at nx hBr ⊢
      obtain ⟨st, g⟩ := p
      dsimp only at nx hBr ⊢
      have nofit : ¬ fFits s f v r g → w_X6_goes_75 s f v line len K (w_X6_goes_6 s f v line len K (d + 1)) st (nI r) g := by
        intro hn
        rw [fStep, if_neg (fun q => hn q.1)] at nx
        refine ⟨fun _ => ?_, fun c => absurd rfl c⟩
        rintro x rfl
        rw [nI_1]
        exact nx
      have fit : fFits s f v r g → w_X6_goes_71 s f v line len K (w_X6_goes_6 s f v line len K (d + 1)) st (nI r) g := by
        intro hf
        refine ⟨fun c => absurd c (by decide), fun _ => ?_⟩
        rw [nI_clamp (by omega)]
        refine ⟨hin, fun c => ⟨hin, ?_⟩, fun c => ?_⟩
        · rintro x16 rfl
          have hroom := hBr hf c
          rw [fStep, if_pos ⟨hf, c⟩] at nx
          dsimp only at nx
          refine ⟨hin, fun c4 => ?_, fun c4 => ⟨hin, ?_⟩⟩
          · rcases hroom with ⟨-, t, ht, et⟩ | ⟨ff, hff, eff, -⟩
            · refine M_fwd et ht ?_
              rintro x rfl
              rw [nI_1]
              rw [if_pos c4] at nx
              exact nx
            · exfalso
              rw [eff] at c4
              exact (by omega : ¬ ff = 4) ((nI_eq (by omega) (by decide)).mp c4)
          · rcases hroom with ⟨q, -⟩ | ⟨ff, hff, eff, e, he, ee⟩
            · exact absurd q c4
            · rw [if_neg c4] at nx
              rw [eff] at nx ⊢
              rw [nI_clamp (by omega)] at nx
              refine M_come hff ee he ?_
              rintro x rfl
              rw [nI_1]
              exact nx
        · rw [fStep, if_neg (fun q => c q.2)] at nx
          rintro x rfl
          rw [nI_1]
          exact nx
      refine ⟨fun c => absurd c (nI_ge hr6 (by decide)), fun _ => ⟨hin, fun c0 => nofit (fun q => q.1 c0), fun c0 => ⟨hin, fun c1 => ⟨hin, fun c2 => nofit (fun q => q.2.2.1 c2), fun c2 => ⟨hin, fun c3 => fit ⟨c0, c1, c2, Or.inl c3⟩, fun c3 => ⟨hin, fun c4 => fit ⟨c0, c1, c2, Or.inr c4⟩, fun c4 => nofit (fun q => by rcases q.2.2.2 with q | q; exact c3 q; exact c4 q)⟩⟩⟩, fun c1 => nofit (fun q => c1 q.2.1)⟩⟩⟩
  exact ⟨7, loop 6 0 rfl⟩
-- the class's route
abbrev cFits (s f v : Int32) (r : Nat) (h : xH) : Prop := ¬ h (20 + r) 0 = 0 ∧ ((h (20 + r) 1 >>> (f &&& 31)) &&& 1) = 1 ∧ ¬ h (20 + r) 2 < v ∧ (h (20 + r) 3 = -1 ∨ h (20 + r) 3 = s)
theorem C_fits {s f v : Int32} {r : Nat} {h : xH} {K : Int32 → xH → Prop} (h1 : cFits s f v r h → K 1 h) (h0 : ¬ cFits s f v r h → K 0 h) : w_X3_fits (20 + r) s f v h K :=
  ⟨fun c => h0 (fun q => q.1 c), fun c => ⟨fun c1 => ⟨fun c2 => h0 (fun q => q.2.2.1 c2), fun c2 => ⟨fun c3 => h1 ⟨c, c1, c2, Or.inl c3⟩, fun c3 => ⟨fun c4 => h1 ⟨c, c1, c2, Or.inr c4⟩, fun c4 => h0 (fun q => by rcases q.2.2.2 with q | q; exact c3 q; exact c4 q)⟩⟩⟩, fun c1 => h0 (fun q => c1 q.2.1)⟩⟩
def cStep (s f v line len : Int32) (r : Nat) (p : Int32 × xH) : Int32 × xH :=
  if ¬ ((p.1 >>> (p.2 (20 + r) 4 &&& 31)) &&& 1) = 1 ∧ cFits s f v r p.2 then
    (p.1 ||| ((1 : Int32) <<< (p.2 (20 + r) 4 &&& 31)), if p.2 (20 + r) 4 < 0 ∨ 4 ≤ p.2 (20 + r) 4 then cTake line p.2 else cAdd (30 + (p.2 (20 + r) 4).toNatClampNeg) line len (p.2 0 5) p.2)
  else p
def cGo (s f v line len : Int32) : Nat → Int32 × xH → Int32 × xH
  | 0, p => p
  | n + 1, p => cStep s f v line len n (cGo s f v line len n p)
theorem C_route {s f v line len : Int32} {h : xH} {K : Int32 → xH → Prop} (hK : K (cGo s f v line len 6 (0, h)).1 (cGo s f v line len 6 (0, h)).2) : w_X5_route line s f v len h K := by
  have loop : ∀ d r, r + d = 6 → w_X5_route_6 line s f v len K (d + 1) (cGo s f v line len r (0, h)).1 (nI r) (cGo s f v line len r (0, h)).2 := by
    intro d
    induction d with
    | zero =>
      intro r hr
      have hr6 : r = 6 := by omega
      subst hr6
      rw [w_X5_route_6_s]
      exact ⟨fun _ => hK, fun c => absurd (nI_le (Nat.le_refl 6) (by decide)) c⟩
    | succ d ih =>
      intro r hr
      have hr6 : r < 6 := by omega
      have hin : vp_in (nI r) 6 := vp_in_nI hr6 (by decide)
      have nx := ih (r + 1) (by omega)
      rw [w_X5_route_6_s, nI_clamp (by omega)]
      rw [show cGo s f v line len (r + 1) (0, h) = cStep s f v line len r (cGo s f v line len r (0, h)) from rfl] at nx
      generalize cGo s f v line len r (0, h) = p at nx ⊢
      obtain ⟨st, g⟩ := p
      dsimp only at nx ⊢
      have skip : ¬ (¬ ((st >>> (g (20 + r) 4 &&& 31)) &&& 1) = 1 ∧ cFits s f v r g) → w_X5_route_116 line s f v len K (w_X5_route_6 line s f v len K (d + 1)) st (nI r) g := by
        intro hn
        rw [cStep, if_neg hn] at nx
        rintro x rfl
        rw [nI_1]
        exact nx
      refine ⟨fun c => absurd c (nI_ge hr6 (by decide)), fun _ => ⟨hin, ?_⟩⟩
      rintro x5 rfl
      refine ⟨fun c => ⟨fun q => absurd q (by decide), fun _ => skip (fun q => q.1 c)⟩, fun c => ⟨fun _ => ⟨hin, ?_⟩, fun q => absurd rfl q⟩⟩
      rw [nI_clamp (by omega)]
      refine C_fits (fun hf => ?_) (fun hf => ⟨fun _ => skip (fun q => hf q.2), fun q => absurd rfl q⟩)
      refine ⟨fun q => absurd q (by decide), fun _ => ?_⟩
      rintro x14 rfl
      rw [cStep, if_pos ⟨c, hf⟩] at nx
      dsimp only at nx
      have take : (g (20 + r) 4 < 0 ∨ 4 ≤ g (20 + r) 4) → w_X5_route_108 line s f v len K (w_X5_route_6 line s f v len K (d + 1)) (st ||| ((1 : Int32) <<< (g (20 + r) 4 &&& 31))) (nI r) g := by
        intro ht
        rw [if_pos ht] at nx
        refine C_take ?_
        rintro x rfl
        rw [nI_1]
        exact nx
      refine ⟨fun c2 => take (Or.inl c2), fun c2 => ⟨fun c3 => take (Or.inr c3), fun c3 => ⟨?_, ?_⟩⟩⟩
      · obtain ⟨j, hj, e⟩ := nI_of c2
        rw [e] at c3 ⊢
        exact vp_in_nI (by rcases Nat.lt_or_ge j 4 with q | q; exact q; exact absurd (nI_le q hj) c3) (by decide)
      · rw [if_neg (by intro q; rcases q with q | q; exact c2 q; exact c3 q)] at nx
        refine C_add ?_
        rintro x rfl
        rw [nI_1]
        exact nx
  exact ⟨7, loop 6 0 rfl⟩
