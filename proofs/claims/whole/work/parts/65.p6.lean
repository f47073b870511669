/-! PURE PART 6: seconds that pass -/
def bst (d : Nat → Bool) (f : Nat → Int32) : Nat → Option Nat
  | 0 => none
  | n + 1 => if d n = true then (match bst d f n with | none => some n | some k => if f k ≤ f n then some k else some n) else bst d f n
def Best (d : Nat → Bool) (f : Nat → Int32) (lo hi : Nat) (r : Option Nat) : Prop := (r = none ∧ ∀ j, lo ≤ j → j < hi → d j = false) ∨ ∃ k, r = some k ∧ lo ≤ k ∧ k < hi ∧ d k = true ∧ ∀ j, lo ≤ j → j < hi → d j = true → f k ≤ f j ∧ (j < k → ¬ f j ≤ f k)
theorem i32_tr {a b c : Int32} (h1 : a ≤ b) (h2 : b ≤ c) : a ≤ c := by
  rw [Int32.le_iff_toInt_le] at *; omega
theorem i32_nle {a b : Int32} (h : ¬ a ≤ b) : b ≤ a := by
  rw [Int32.le_iff_toInt_le] at *; omega
theorem i32_nlt {a b : Int32} (h : ¬ a < b) : b ≤ a := by
  rw [Int32.lt_iff_toInt_lt] at h; rw [Int32.le_iff_toInt_le]; omega
theorem i32_lt {a b : Int32} (h : a < b) : a ≤ b ∧ ¬ b ≤ a := by
  rw [Int32.lt_iff_toInt_lt] at h; rw [Int32.le_iff_toInt_le, Int32.le_iff_toInt_le]; omega
theorem bst_best {d : Nat → Bool} {f : Nat → Int32} : ∀ n, Best d f 0 n (bst d f n) := by
  intro n
  induction n with
  | zero => left; exact ⟨rfl, fun j _ h => absurd h (by omega)⟩
  | succ n ih =>
    show Best d f 0 (n + 1) (if d n = true then (match bst d f n with | none => some n | some k => if f k ≤ f n then some k else some n) else bst d f n)
    by_cases hd : d n = true
    · rw [if_pos hd]
      rcases ih with ⟨e, hn⟩ | ⟨k, e, -, hk, dk, hb⟩
      · rw [e]
        right
        refine ⟨n, rfl, by omega, by omega, hd, fun j _ hj dj => ?_⟩
        by_cases ej : j = n
        · subst ej; exact ⟨Int32.le_refl _, fun q => absurd q (by omega)⟩
        · have := hn j (by omega) (by omega)
          rw [this] at dj; cases dj
      · rw [e]
        dsimp only
        by_cases c : f k ≤ f n
        · rw [if_pos c]
          right
          refine ⟨k, rfl, by omega, by omega, dk, fun j _ hj dj => ?_⟩
          by_cases ej : j = n
          · subst ej; exact ⟨c, fun q => absurd q (by omega)⟩
          · exact hb j (by omega) (by omega) dj
        · rw [if_neg c]
          right
          refine ⟨n, rfl, by omega, by omega, hd, fun j _ hj dj => ?_⟩
          by_cases ej : j = n
          · subst ej; exact ⟨Int32.le_refl _, fun q => absurd q (by omega)⟩
          · obtain ⟨h1, -⟩ := hb j (by omega) (by omega) dj
            exact ⟨i32_tr (i32_nle c) h1, fun _ q => c (i32_tr h1 q)⟩
    · rw [if_neg hd]
      have hd' : d n = false := by cases h : d n; rfl; exact absurd h hd
      rcases ih with ⟨e, hn⟩ | ⟨k, e, h0, hk, dk, hb⟩
      · left
        refine ⟨e, fun j h1 h2 => ?_⟩
        by_cases ej : j = n
        · subst ej; exact hd'
        · exact hn j h1 (by omega)
      · right
        refine ⟨k, e, h0, by omega, dk, fun j h1 h2 dj => ?_⟩
        by_cases ej : j = n
        · subst ej; exact absurd dj hd
        · exact hb j h1 (by omega) dj
theorem Best_u {d : Nat → Bool} {f : Nat → Int32} {lo hi : Nat} {r r' : Option Nat} (h : Best d f lo hi r) (h' : Best d f lo hi r') : r = r' := by
  rcases h with ⟨e, hn⟩ | ⟨k, e, h1, h2, dk, hb⟩
  · rcases h' with ⟨e', -⟩ | ⟨k', e', h1', h2', dk', -⟩
    · rw [e, e']
    · have := hn k' h1' h2'
      rw [this] at dk'; cases dk'
  · rcases h' with ⟨e', hn'⟩ | ⟨k', e', h1', h2', dk', hb'⟩
    · have := hn' k h1 h2
      rw [this] at dk; cases dk
    · rw [e, e']
      obtain ⟨a1, a2⟩ := hb k' h1' h2' dk'
      obtain ⟨b1, b2⟩ := hb' k h1 h2 dk
      rcases Nat.lt_trichotomy k k' with q | q | q
      · exact absurd a1 (b2 q)
      · rw [q]
      · exact absurd b1 (a2 q)
theorem bst_congr {d d' : Nat → Bool} {f f' : Nat → Int32} {n : Nat} (hd : ∀ j, j < n → d j = d' j) (hf : ∀ j, j < n → f j = f' j) : bst d f n = bst d' f' n := by
  have h := bst_best (d := d) (f := f) n
  have h' := bst_best (d := d') (f := f') n
  refine Best_u (d := d') (f := f') (lo := 0) (hi := n) ?_ h'
  rcases h with ⟨e, hn⟩ | ⟨k, e, h1, h2, dk, hb⟩
  · left; exact ⟨e, fun j h1 h2 => by rw [← hd j h2]; exact hn j h1 h2⟩
  · right
    refine ⟨k, e, h1, h2, by rw [← hd k h2]; exact dk, fun j h3 h4 dj => ?_⟩
    rw [← hf k h2, ← hf j h4]
    exact hb j h3 h4 (by rw [hd j h4]; exact dj)
theorem bst_lt {d : Nat → Bool} {f : Nat → Int32} {n k : Nat} (h : bst d f n = some k) : k < n ∧ d k = true := by
  rcases bst_best (d := d) (f := f) n with ⟨e, -⟩ | ⟨k', e, h1, h2, dk, -⟩
  · rw [h] at e; cases e
  · rw [h] at e; cases e; exact ⟨h2, dk⟩
def duC (h : xH) (n : Nat) : Bool := decide (¬ h (10 + n) 2 ≤ 0 ∧ ¬ h 0 5 - h (10 + n) 3 < h 0 8)
def duM (m : xH) (n : Nat) : Bool := decide (¬ m 66 n ≤ 0 ∧ ¬ m 60 1 - m 67 n < m 60 4)
def bC (h : xH) : Nat → Option Nat := bst (duC h) (fun i => h (10 + i) 3)
def bM (m : xH) : Nat → Option Nat := bst (duM m) (fun i => m 67 i)
theorem b_R {h m : xH} (gs : GS h m) : bC h 6 = bM m 6 := by
  refine bst_congr (fun j hj => ?_) (fun j hj => (gs.2.1 j hj).2.2.2.1)
  obtain ⟨-, -, r2, r3, -⟩ := gs.2.1 j hj
  unfold duC duM
  rw [r2, r3, gs.1.1, gs.1.2.2.2.1]
theorem C_first {h : xH} {K : Option Nat → xH → Prop} (hK : K ((bC h 6).map (fun k => 10 + k)) h) : w_X5_firstWithDueRepeats h K := by
  have loop : ∀ d i, i + d = 6 → w_X5_firstWithDueRepeats_4 K (d + 1) ((bC h i).map (fun k => 10 + k)) (nI i) h := by
    intro d
    induction d with
    | zero =>
      intro i hi
      have h6 : i = 6 := by omega
      subst h6
      rw [w_X5_firstWithDueRepeats_4_s]
      refine ⟨fun _ => ⟨fun q => ?_, fun k q => ?_⟩, fun c => absurd (nI_le (Nat.le_refl 6) (by decide)) c⟩
      · rw [q] at hK; exact hK
      · rw [q] at hK; exact hK
    | succ d ih =>
      intro i hi
      have h6 : i < 6 := by omega
      have nx := ih (i + 1) (by omega)
      rw [w_X5_firstWithDueRepeats_4_s, nI_clamp (by omega)]
      have hs : bC h (i + 1) = (if duC h i = true then (match bC h i with | none => some i | some k => if h (10 + k) 3 ≤ h (10 + i) 3 then some k else some i) else bC h i) := rfl
      have p69 : ∀ r : Option Nat, r = (bC h (i + 1)).map (fun k => 10 + k) → w_X5_firstWithDueRepeats_69 K (w_X5_firstWithDueRepeats_4 K (d + 1)) r (nI i) h := by
        rintro r rfl x rfl
        rw [nI_1]
        exact nx
      have p44 : duC h i = false → w_X5_firstWithDueRepeats_44 K (w_X5_firstWithDueRepeats_4 K (d + 1)) ((bC h i).map (fun k => 10 + k)) (nI i) (10 + i) h := by
        intro hd
        refine ⟨fun _ => p69 _ ?_, fun q => absurd rfl q⟩
        rw [hs, hd, if_neg (by decide)]
      refine ⟨fun c => absurd c (nI_ge h6 (by decide)), fun _ => ⟨vp_in_nI h6 (by decide), fun c1 => p44 ?_, fun c1 => ⟨fun c2 => p44 ?_, fun c2 => ?_⟩⟩⟩
      · unfold duC; exact decide_eq_false (fun q => q.1 c1)
      · unfold duC; exact decide_eq_false (fun q => q.2 c2)
      · have hd : duC h i = true := by unfold duC; exact decide_eq_true ⟨c1, c2⟩
        rw [hs, if_pos hd] at p69
        refine ⟨fun q => absurd q (by decide), fun _ => ⟨fun e => p69 _ ?_, fun k e => ?_⟩⟩
        · cases hb : bC h i with
          | none => rfl
          | some k => rw [hb] at e; cases e
        · cases hb : bC h i with
          | none => rw [hb] at e; cases e
          | some k0 =>
            rw [hb] at e p69
            have ek : 10 + k0 = k := by
              have := Option.some.inj e
              exact this
            subst ek
            dsimp only at p69
            refine ⟨fun c3 => p69 _ ?_, fun c3 => p69 _ ?_⟩
            · rw [if_pos c3]; rfl
            · rw [if_neg c3]; rfl
  exact ⟨7, loop 6 0 rfl⟩
def enc (r : Option Nat) : Int32 := match r with | none => -1 | some k => nI k
theorem M_due {m : xH} {K : Int32 → xH → Prop} (hK : K (enc (bM m 6)) m) : w_X6_due m K := by
  have loop : ∀ d, d ≤ 6 → ∀ r, Best (duM m) (fun i => m 67 i) d 6 r → w_X6_due_4 K (d + 1) (enc r) (nI d + (-1)) m := by
    intro d
    induction d with
    | zero =>
      intro _ r hr
      rw [w_X6_due_4_s]
      have e : r = bM m 6 := Best_u hr (bst_best 6)
      refine ⟨fun _ => by rw [e]; exact hK, fun c => absurd (by decide) c⟩
    | succ d ih =>
      intro hd r hr
      rw [w_X6_due_4_s, pk_m1, nI_clamp (by omega)]
      have hin : vp_in (nI d) 6 := vp_in_nI (by omega) (by decide)
      have p70 : ∀ r', Best (duM m) (fun i => m 67 i) d 6 r' → ∀ s : Int32, s = enc r' → w_X6_due_70 K (w_X6_due_4 K (d + 1)) (nI d) s m := by
        rintro r' hb s rfl x rfl
        exact ih (by omega) r' hb
      have p39 : duM m d = false → w_X6_due_39 K (w_X6_due_4 K (d + 1)) (enc r) (nI d) m := by
        intro hdu
        refine ⟨fun _ => p70 r ?_ _ rfl, fun q => absurd rfl q⟩
        rcases hr with ⟨e, hn⟩ | ⟨k, e, h1, h2, dk, hb⟩
        · left
          refine ⟨e, fun j h1 h2 => ?_⟩
          by_cases ej : j = d
          · subst ej; exact hdu
          · exact hn j (by omega) h2
        · right
          refine ⟨k, e, by omega, h2, dk, fun j h3 h4 dj => ?_⟩
          by_cases ej : j = d
          · subst ej; rw [hdu] at dj; cases dj
          · exact hb j (by omega) h4 dj
      refine ⟨fun c => absurd c (nI_pos (by omega)), fun _ => ⟨hin, fun c1 => p39 ?_, fun c1 => ⟨hin, fun c2 => p39 ?_, fun c2 => ?_⟩⟩⟩
      · unfold duM; exact decide_eq_false (fun q => q.1 c1)
      · unfold duM; exact decide_eq_false (fun q => q.2 c2)
      · have hdu : duM m d = true := by unfold duM; exact decide_eq_true ⟨c1, c2⟩
        refine ⟨fun q => absurd q (by decide), fun _ => ?_⟩
        rcases hr with ⟨e, hn⟩ | ⟨k, e, h1, h2, dk, hb⟩
        · subst e
          refine ⟨fun _ => p70 (some d) ?_ _ rfl, fun q => absurd rfl q⟩
          right
          refine ⟨d, rfl, Nat.le_refl d, by omega, hdu, fun j h3 h4 dj => ?_⟩
          by_cases ej : j = d
          · subst ej; exact ⟨Int32.le_refl _, fun q => absurd q (by omega)⟩
          · have := hn j (by omega) h4
            rw [this] at dj; cases dj
        · subst e
          have ek : enc (some k) = nI k := rfl
          rw [ek, nI_clamp (n := k) (by omega), nI_clamp (n := d) (by omega)]
          refine ⟨fun q => absurd q (nI_m1 (by omega)), fun _ => ⟨hin, vp_in_nI h2 (by decide), fun c3 => p70 (some k) ?_ _ rfl, fun c3 => p70 (some d) ?_ _ rfl⟩⟩
          · right
            refine ⟨k, rfl, by omega, h2, dk, fun j h3 h4 dj => ?_⟩
            by_cases ej : j = d
            · subst ej
              obtain ⟨x1, x2⟩ := i32_lt c3
              exact ⟨x1, fun _ => x2⟩
            · exact hb j (by omega) h4 dj
          · right
            refine ⟨d, rfl, Nat.le_refl d, by omega, hdu, fun j h3 h4 dj => ?_⟩
            by_cases ej : j = d
            · subst ej; exact ⟨Int32.le_refl _, fun q => absurd q (by omega)⟩
            · obtain ⟨x1, -⟩ := hb j (by omega) h4 dj
              exact ⟨i32_tr (i32_nlt c3) x1, fun q => absurd q (by omega)⟩
  exact ⟨7, loop 6 (Nat.le_refl 6) none (Or.inl ⟨rfl, fun j h1 h2 => absurd h2 (by omega)⟩)⟩
-- telling what is due
def cDueL : Nat → xH → xH
  | 0, h => h
  | n + 1, h => match bC h 6 with | none => h | some k => cDueL n (cTell (10 + k) h)
def fDueL : Nat → xH → xH
  | 0, m => m
  | n + 1, m => match bM m 6 with | none => m | some k => fDueL n (fTellR k m)
theorem C_tellDue {h : xH} {K : Unit → xH → Prop} (hK : K () (cDueL 6 h)) : w_X5_tellDueRepeats h K := by
  have loop : ∀ d i, i + d = 6 → ∀ g, K () (cDueL d g) → w_X5_tellDueRepeats_2 K (d + 1) (nI i) g := by
    intro d
    induction d with
    | zero =>
      intro i hi g hg
      have h6 : i = 6 := by omega
      subst h6
      rw [w_X5_tellDueRepeats_2_s]
      exact ⟨fun _ => hg, fun c => absurd (nI_le (Nat.le_refl 6) (by decide)) c⟩
    | succ d ih =>
      intro i hi g hg
      rw [w_X5_tellDueRepeats_2_s]
      refine ⟨fun c => absurd c (nI_ge (show i < 6 by omega) (by decide)), fun _ => C_first ?_⟩
      have hg2 : K () (match bC g 6 with | none => g | some k => cDueL d (cTell (10 + k) g)) := hg
      cases hb : bC g 6 with
      | none =>
        rw [hb] at hg2
        refine ⟨?_, fun _ => hg2, ?_⟩
        · intro k q; cases q
        · intro k q; cases q
      | some k0 =>
        rw [hb] at hg2
        have hk := (bst_lt hb).1
        refine ⟨?_, fun q => (by cases q), ?_⟩
        · intro k q
          have : 10 + k0 = k := Option.some.inj q
          omega
        · intro k q
          have e : 10 + k0 = k := Option.some.inj q
          subst e
          refine C_tell ?_
          rintro x rfl
          rw [nI_1]
          exact ih (i + 1) (by omega) _ hg2
  exact ⟨7, loop 6 0 rfl h hK⟩
theorem tell_GG {c : Int32} {s : Nat} {h m : xH} (hs : s < 6) (g : GG c h m) (hm : ¬ m 66 s ≤ 0) : (∃ N, GF c N h m ∧ N ≤ 399) ∧ GG c (cTell (10 + s) h) (fTellR s m) := by
  obtain ⟨gs, N, n, gf, hn, h4, hp⟩ := g
  have h2 := cntN_66 (m := m) (s := s) (x := 0) 6
  rw [if_pos hs, if_pos hs, ind_pos hm, ind_0] at h2
  obtain ⟨a, b, d, e⟩ := tell_R hs gf gs (by omega) hm
  exact ⟨⟨N, gf, by omega⟩, b, N + 1, n, a, by rw [e]; exact hn, h4, by omega⟩
theorem due_GG {c : Int32} : ∀ d, ∀ h m : xH, GG c h m → GG c (cDueL d h) (fDueL d m) := by
  intro d
  induction d with
  | zero => intro h m g; exact g
  | succ d ih =>
    intro h m g
    have e := b_R g.1
    show GG c (match bC h 6 with | none => h | some k => cDueL d (cTell (10 + k) h)) (match bM m 6 with | none => m | some k => fDueL d (fTellR k m))
    rw [e]
    cases hb : bM m 6 with
    | none => exact g
    | some k =>
      obtain ⟨hk, hd⟩ := bst_lt hb
      unfold duM at hd
      exact ih _ _ (tell_GG hk g (of_decide_eq_true hd).1).2
def cR (m : xH) : Nat → Nat
  | 0 => 0
  | n + 1 => cR m n + ind (m 66 n)
theorem cR_fr {m m' : xH} (e66 : m' 66 = m 66) : ∀ n, cR m' n = cR m n := by
  intro n
  induction n with
  | zero => rfl
  | succ n ih => simp only [cR, ih, e66]
theorem cR_le {m : xH} : ∀ n, cR m n ≤ n := by
  intro n
  induction n with
  | zero => exact Nat.le_refl 0
  | succ n ih =>
    have := ind_le (m 66 n)
    simp only [cR]; omega
theorem cR_66 {m : xH} {s : Nat} {x : Int32} : ∀ n, cR (xup m 66 s x) n + (if s < n then ind (m 66 s) else 0) = cR m n + (if s < n then ind x else 0) := by
  intro n
  induction n with
  | zero => simp [cR]
  | succ n ih =>
    simp only [cR]
    by_cases e : n = s
    · subst e
      rw [xup_same]
      rw [if_neg (by omega), if_neg (by omega)] at ih
      rw [if_pos (by omega), if_pos (by omega)]
      omega
    · rw [xup_ne (Or.inr e)]
      by_cases hs : s < n
      · rw [if_pos hs, if_pos hs] at ih
        rw [if_pos (by omega), if_pos (by omega)]
        omega
      · rw [if_neg hs, if_neg hs] at ih
        rw [if_neg (by omega), if_neg (by omega)]
        omega
theorem cR_tell {m : xH} {s : Nat} (hs : s < 6) (hm : ¬ m 66 s ≤ 0) : cR (fTellR s m) 6 + 1 = cR m 6 := by
  have h1 : cR (fTellR s m) 6 = cR (xup m 66 s 0) 6 := cR_fr (fGo_o (by decide) (by decide) (by decide) 6) 6
  have h2 := cR_66 (m := m) (s := s) (x := 0) 6
  rw [if_pos hs, if_pos hs, ind_pos hm, ind_0] at h2
  omega
theorem M_dueL {c : Int32} {K : Unit → xH → Prop} : ∀ d, ∀ h m : xH, GG c h m → cR m 6 ≤ d → (∃ n : Nat, w_X6_passes_88 K n 0 (fDueL d m)) → w_X6_passes_68 K (d + 1) (enc (bM m 6)) m := by
  intro d
  induction d with
  | zero =>
    intro h m g hd hK
    rw [w_X6_passes_68_s]
    cases hb : bM m 6 with
    | none => exact ⟨fun _ => hK, fun q => absurd rfl q⟩
    | some k =>
      obtain ⟨hk, hdu⟩ := bst_lt hb
      unfold duM at hdu
      have := cR_tell hk (of_decide_eq_true hdu).1
      omega
  | succ d ih =>
    intro h m g hd hK
    rw [w_X6_passes_68_s]
    have hK2 : ∃ n : Nat, w_X6_passes_88 K n 0 (match bM m 6 with | none => m | some k => fDueL d (fTellR k m)) := hK
    cases hb : bM m 6 with
    | none =>
      rw [hb] at hK2
      exact ⟨fun _ => hK2, fun q => absurd rfl q⟩
    | some k =>
      rw [hb] at hK2
      obtain ⟨hk, hdu⟩ := bst_lt hb
      unfold duM at hdu
      have hm := (of_decide_eq_true hdu).1
      have hc := cR_tell hk hm
      obtain ⟨⟨N, gf, hN⟩, g'⟩ := tell_GG hk g hm
      refine ⟨fun q => absurd q (nI_m1 (by omega)), fun _ => M_tellR hk gf g.1.1.1 hN (M_due ?_)⟩
      exact ih _ _ g' (by omega) hK2
-- tokens
def cGive : Nat → xH → xH
  | 0, h => h
  | n + 1, h => if cGive n h 0 6 ≤ cGive n h (10 + n) 1 then cGive n h else xup (cGive n h) (10 + n) 1 (cGive n h (10 + n) 1 + 1)
theorem C_give {h : xH} {K : Unit → xH → Prop} (hK : K () (cGive 6 h)) : w_X5_giveTokens h K := by
  have loop : ∀ d i, i + d = 6 → w_X5_giveTokens_2 K (d + 1) (nI i) (cGive i h) := by
    intro d
    induction d with
    | zero =>
      intro i hi
      have h6 : i = 6 := by omega
      subst h6
      rw [w_X5_giveTokens_2_s]
      exact ⟨fun _ => hK, fun c => absurd (nI_le (Nat.le_refl 6) (by decide)) c⟩
    | succ d ih =>
      intro i hi
      have nx := ih (i + 1) (by omega)
      rw [show cGive (i + 1) h = if cGive i h 0 6 ≤ cGive i h (10 + i) 1 then cGive i h else xup (cGive i h) (10 + i) 1 (cGive i h (10 + i) 1 + 1) from rfl] at nx
      rw [w_X5_giveTokens_2_s, nI_clamp (by omega)]
      refine ⟨fun c => absurd c (nI_ge (show i < 6 by omega) (by decide)), fun _ => ⟨vp_in_nI (show i < 6 by omega) (by decide), fun c => ?_, fun c => ?_⟩⟩
      · rintro x rfl
        rw [if_pos c] at nx
        rw [nI_1]; exact nx
      · rintro h2 rfl x rfl
        rw [if_neg c] at nx
        rw [nI_1]; exact nx
  exact ⟨7, loop 6 0 rfl⟩
abbrev fTick (m : xH) : Prop := m 60 1 - m 60 1 / m 60 3 * m 60 3 = 0
def fGive : Nat → xH → xH
  | 0, m => m
  | n + 1, m => xup (fGive n m) 65 n (fGive n m 65 n + (if fTick (fGive n m) ∧ ¬ fGive n m 60 2 ≤ fGive n m 65 n then 1 else 0))
theorem xup_id {m : xH} {a b : Nat} {x : Int32} (h : x = m a b) : xup m a b x = m := by
  funext p q
  unfold xup
  by_cases h1 : p = a
  · by_cases h2 : q = b
    · rw [if_pos h1, if_pos h2, h1, h2, h]
    · rw [if_pos h1, if_neg h2]
  · rw [if_neg h1]
theorem fGive_60 {m : xH} {b : Nat} : ∀ n, fGive n m 60 b = m 60 b := by
  intro n
  induction n with
  | zero => rfl
  | succ n ih =>
    show xup (fGive n m) 65 n _ 60 b = _
    rw [xup_row (by decide)]; exact ih
theorem fGive_no {m : xH} (ht : ¬ fTick m) : ∀ n, fGive n m = m := by
  intro n
  induction n with
  | zero => rfl
  | succ n ih =>
    show xup (fGive n m) 65 n (fGive n m 65 n + (if fTick (fGive n m) ∧ ¬ fGive n m 60 2 ≤ fGive n m 65 n then 1 else 0)) = m
    rw [ih, if_neg (fun q => ht q.1)]
    exact xup_id (Int32.add_zero _)
theorem tok_GG {c : Int32} {s : Nat} {h m : xH} {x : Int32} (hs : s < 6) (g : GG c h m) : GG c (xup h (10 + s) 1 x) (xup m 65 s x) := by
  obtain ⟨gs, N, n, gf, hn, h4, hp⟩ := g
  obtain ⟨a, b, d⟩ := tok_R (x := x) hs gs gf (by omega)
  exact ⟨a, N, n, b, by rw [xup_row (by decide)]; exact hn, h4, by omega⟩
theorem give_GG {c : Int32} {h m : xH} (ht : fTick m) (g : GG c h m) : ∀ n, n ≤ 6 → GG c (cGive n h) (fGive n m) := by
  intro n
  induction n with
  | zero => intro _; exact g
  | succ n ih =>
    intro hn
    have gi := ih (by omega)
    have r := gi.1.2.1 n (by omega)
    have htk : fTick (fGive n m) := by
      unfold fTick
      rw [fGive_60, fGive_60]; exact ht
    show GG c (if cGive n h 0 6 ≤ cGive n h (10 + n) 1 then cGive n h else xup (cGive n h) (10 + n) 1 (cGive n h (10 + n) 1 + 1)) (xup (fGive n m) 65 n (fGive n m 65 n + (if fTick (fGive n m) ∧ ¬ fGive n m 60 2 ≤ fGive n m 65 n then 1 else 0)))
    rw [r.2.1, gi.1.1.2.1]
    by_cases e : fGive n m 60 2 ≤ fGive n m 65 n
    · rw [if_pos e, if_neg (fun q => q.2 e), xup_id (Int32.add_zero _)]
      exact gi
    · rw [if_neg e, if_pos ⟨htk, e⟩]
      exact tok_GG (by omega) gi
-- ageing
def cAge : Nat → xH → xH
  | 0, h => h
  | n + 1, h => if ¬ cAge n h (30 + n) 4 = 0 ∧ ¬ cAge n h (30 + n) 2 = cAge n h (30 + n + 20) 0 ∧ ¬ cAge n h 0 5 - cAge n h (30 + n) 6 < cAge n h (30 + n) 4 then cRot (30 + n) (cAge n h) else cAge n h
def fAge : Nat → xH → xH
  | 0, m => m
  | n + 1, m => if ¬ fAge n m 76 n ≤ 0 ∧ ¬ fAge n m 79 n - fAge n m 81 (7 * n) ≤ 0 ∧ ¬ fAge n m 60 1 - fAge n m 83 (400 * n + (fAge n m 81 (7 * n)).toNatClampNeg) < fAge n m 76 n then fRot n (fAge n m) else fAge n m
theorem C_age {h : xH} {K : Unit → xH → Prop} (hK : K () (cAge 4 h)) : w_X5_rotateAgedFiles h K := by
  have loop : ∀ d i, i + d = 4 → w_X5_rotateAgedFiles_2 K (d + 1) (nI i) (cAge i h) := by
    intro d
    induction d with
    | zero =>
      intro i hi
      have h6 : i = 4 := by omega
      subst h6
      rw [w_X5_rotateAgedFiles_2_s]
      exact ⟨fun _ => hK, fun c => absurd (nI_le (Nat.le_refl 4) (by decide)) c⟩
    | succ d ih =>
      intro i hi
      have nx := ih (i + 1) (by omega)
      rw [show cAge (i + 1) h = if ¬ cAge i h (30 + i) 4 = 0 ∧ ¬ cAge i h (30 + i) 2 = cAge i h (30 + i + 20) 0 ∧ ¬ cAge i h 0 5 - cAge i h (30 + i) 6 < cAge i h (30 + i) 4 then cRot (30 + i) (cAge i h) else cAge i h from rfl] at nx
      rw [w_X5_rotateAgedFiles_2_s, nI_clamp (by omega)]
      have hin : vp_in (nI i) 4 := vp_in_nI (by omega) (by decide)
      refine ⟨fun c => absurd c (nI_ge (show i < 4 by omega) (by decide)), fun _ => ⟨hin, C_isAged (fun hc => ⟨fun q => absurd q (by decide), fun _ => ⟨hin, C_turn ?_⟩⟩) (fun hc => ⟨fun _ => ?_, fun q => absurd rfl q⟩)⟩⟩
      · rintro x rfl
        unfold cAged at hc
        rw [if_pos hc] at nx
        rw [nI_1]; exact nx
      · rintro x rfl
        unfold cAged at hc
        rw [if_neg hc] at nx
        rw [nI_1]; exact nx
  exact ⟨5, loop 4 0 rfl⟩
theorem rot_GG {c : Int32} {f : Nat} {h m : xH} (hf : f < 4) (g : GG c h m) : GG c (cRot (30 + f) h) (fRot f m) := by
  obtain ⟨gs, N, n, ⟨g1, g2, g3, g4, g5, g6⟩, hn, h4, hp⟩ := g
  have hO : ∀ f, f < 4 → OF m f 400 := fun f hf => OF_mono (g5 f hf) (by omega)
  refine ⟨GS_fr gs (cRot_o (by omega) (by omega)) (fun k h1 h2 => cRot_o (by omega) (by omega)) (cRot_o (by omega) (by omega)) (cRot_o (by omega) (by omega)) (cRot_o (by omega) (by omega)) (fun k h1 h2 => fRot_o (by omega) (by omega) (by omega) (by omega)) (fRot_60 (by decide)) (fRot_60 (by decide)) (fRot_60 (by decide)) (fRot_60 (by decide)) (fRot_60 (by decide)) (fRot_o (by decide) (by decide) (by decide) (by decide)) (fRot_o (by decide) (by decide) (by decide) (by decide)), N, n, ⟨⟨fun f' hf' => ?_, ?_⟩, ?_, ?_, ?_, fun f' hf' => ?_, ?_⟩, ?_, h4, ?_⟩
  · by_cases e : f' = f
    · subst e; exact RF_rot (g1.1 f' hf')
    · exact RF_rot' (hO f' hf') (g1.1 f' hf') e hf hf'
  · rw [xsum_rot hf, g1.2, fRot_6030, Int32.add_assoc]
  · exact RW_fr g2 (cRot_o (by omega) (by omega)) (cRot_o (by omega) (by omega)) (fRot_60 (by decide)) (fRot_60 (by decide)) (fRot_60 (by decide)) (fRot_60 (by decide)) (fRot_60 (by decide)) (fRot_o (by decide) (by decide) (by decide) (by decide))
  · exact RR_fr g3 (fun k h1 h2 => cRot_o (by omega) (by omega)) (fun k h1 h2 => fRot_o (by omega) (by omega) (by omega) (by omega))
  · exact OR_fr g4 (fun k h1 h2 => fRot_o (by omega) (by omega) (by omega) (by omega))
  · by_cases e : f' = f
    · subst e; exact OF_rot (g5 f' hf') (by omega)
    · exact OF_rot' (g5 f' hf') e
  · exact OW_fr g6 (fRot_60 (by decide)) (fRot_60 (by decide)) (fRot_60 (by decide)) (fRot_60 (by decide))
  · rw [fRot_60 (by decide)]; exact hn
  · rw [cntN_fr (fRot_o (by decide) (by decide) (by decide) (by decide)) (fRot_o (by decide) (by decide) (by decide) (by decide)) 6]; exact hp
theorem i32_z {a : Int32} (h : ¬ a < 0) : a = 0 ↔ a ≤ 0 := by
  constructor
  · intro q; rw [q]; exact Int32.le_refl 0
  · intro q
    rw [Int32.le_iff_toInt_le] at q
    rw [Int32.lt_iff_toInt_lt] at h
    apply Int32.toInt_inj.mp
    have : (0 : Int32).toInt = 0 := by decide
    omega
theorem aged_R {c : Int32} {f : Nat} {h m : xH} (hf : f < 4) (g : GG c h m) : (¬ h (30 + f) 4 = 0 ∧ ¬ h (30 + f) 2 = h (30 + f + 20) 0 ∧ ¬ h 0 5 - h (30 + f) 6 < h (30 + f) 4) ↔ (¬ m 76 f ≤ 0 ∧ ¬ m 79 f - m 81 (7 * f) ≤ 0 ∧ ¬ m 60 1 - m 83 (400 * f + (m 81 (7 * f)).toNatClampNeg) < m 76 f) := by
  obtain ⟨gs, N, n, ⟨g1, g2, g3, g4, g5, g6⟩, hn, h4, hp⟩ := g
  obtain ⟨r1, r2, r3, r4, r5, r6, r7, r8, r9⟩ := g1.1 f hf
  obtain ⟨e, s, h1, h2, h3, -, h5, -, h10⟩ := g5 f hf
  have h20 := h2 0 (by decide)
  have r70 : h (30 + f + 20) 0 = m 81 (7 * f) := r7 0 (by decide)
  rw [Nat.add_zero] at h20
  rw [r3, r1, r70, gs.1.1, i32_z h10]
  have hz := nz_sub h3 (by omega : e ≤ 400)
  rw [← h1, ← h20] at hz
  rw [hz]
  constructor
  · rintro ⟨a, b, d⟩; rw [r9 b] at d; exact ⟨a, b, d⟩
  · rintro ⟨a, b, d⟩; rw [← r9 b] at d; exact ⟨a, b, d⟩
theorem age_GG {c : Int32} {h m : xH} (g : GG c h m) : ∀ n, n ≤ 4 → GG c (cAge n h) (fAge n m) := by
  intro n
  induction n with
  | zero => intro _; exact g
  | succ n ih =>
    intro hn
    have gi := ih (by omega)
    have hc := aged_R (f := n) (by omega) gi
    show GG c (if _ then _ else _) (if _ then _ else _)
    by_cases e : (¬ fAge n m 76 n ≤ 0 ∧ ¬ fAge n m 79 n - fAge n m 81 (7 * n) ≤ 0 ∧ ¬ fAge n m 60 1 - fAge n m 83 (400 * n + (fAge n m 81 (7 * n)).toNatClampNeg) < fAge n m 76 n)
    · rw [if_pos e, if_pos (hc.mpr e)]
      exact rot_GG (by omega) gi
    · rw [if_neg e, if_neg (fun q => e (hc.mp q))]
      exact gi
theorem M_age {c : Int32} {h m : xH} {K : Unit → xH → Prop} (g : GG c h m) (hK : K () (fAge 4 m)) : ∃ n : Nat, w_X6_passes_88 K n 0 m := by
  have loop : ∀ d i, i + d = 4 → w_X6_passes_88 K (d + 1) (nI i) (fAge i m) := by
    intro d
    induction d with
    | zero =>
      intro i hi
      have h6 : i = 4 := by omega
      subst h6
      rw [w_X6_passes_88_s]
      exact ⟨fun _ => hK, fun c => absurd (nI_le (Nat.le_refl 4) (by decide)) c⟩
    | succ d ih =>
      intro i hi
      have hi4 : i < 4 := by omega
      have nx := ih (i + 1) (by omega)
      have gi := age_GG g i (by omega)
      rw [show fAge (i + 1) m = if ¬ fAge i m 76 i ≤ 0 ∧ ¬ fAge i m 79 i - fAge i m 81 (7 * i) ≤ 0 ∧ ¬ fAge i m 60 1 - fAge i m 83 (400 * i + (fAge i m 81 (7 * i)).toNatClampNeg) < fAge i m 76 i then fRot i (fAge i m) else fAge i m from rfl] at nx
      rw [w_X6_passes_88_s, nI_clamp (by omega)]
      have hin : vp_in (nI i) 4 := vp_in_nI hi4 (by decide)
      generalize fAge i m = q at nx gi ⊢
      have p159 : ¬ (¬ q 76 i ≤ 0 ∧ ¬ q 79 i - q 81 (7 * i) ≤ 0 ∧ ¬ q 60 1 - q 83 (400 * i + (q 81 (7 * i)).toNatClampNeg) < q 76 i) → w_X6_passes_159 K (w_X6_passes_88 K (d + 1)) (nI i) q := by
        intro hc
        rw [if_neg hc] at nx
        rintro x rfl
        rw [nI_1]; exact nx
      have p114 : ¬ (¬ q 76 i ≤ 0 ∧ ¬ q 79 i - q 81 (7 * i) ≤ 0 ∧ ¬ q 60 1 - q 83 (400 * i + (q 81 (7 * i)).toNatClampNeg) < q 76 i) → w_X6_passes_114 K (w_X6_passes_88 K (d + 1)) (nI i) q := fun hc => ⟨fun _ => p159 hc, fun z => absurd rfl z⟩
      refine ⟨fun c => absurd c (nI_ge hi4 (by decide)), fun _ => ⟨hin, fun c1 => p114 (fun z => z.1 c1), fun c1 => M_linesOf hi4 ⟨fun c2 => p114 (fun z => z.2.1 c2), fun c2 => ⟨fun z => absurd z (by decide), fun _ => ?_⟩⟩⟩⟩
      have e1 : (7 : Int32) * nI i = nI (7 * i) := pk_mul 7 i
      obtain ⟨gs, N, n, ⟨g1, g2, g3, g4, g5, g6⟩, hn, h4, hp⟩ := gi
      obtain ⟨e, s, h1, h2, h3, -, h5, -, -⟩ := g5 i hi4
      have h20 := h2 0 (by decide)
      rw [Nat.add_zero] at h20
      have hse : s 0 < e := by
        rcases Nat.lt_or_ge (s 0) e with z | z
        · exact z
        · exfalso
          apply c2
          rw [h1, h20, pk_sub h3, show e - s 0 = 0 by omega]
          exact Int32.le_refl 0
      have e4 : (400 : Int32) * nI i + nI (s 0) = nI (400 * i + s 0) := by
        rw [show (400 : Int32) * nI i = nI (400 * i) from pk_mul 400 i, nI_add]
      rw [h20, nI_clamp (by omega)] at nx p159
      rw [e1, nI_clamp (by omega), h20, e4, nI_clamp (by omega), nI_clamp (by omega)]
      refine ⟨vp_in_nI (by omega) (by decide), vp_in_nI (by omega) (by decide), hin, fun c3 => p159 (fun z => z.2.2 c3), fun c3 => M_rot hi4 ?_⟩
      rintro x rfl
      rw [← h20] at nx
      rw [h20, if_pos ⟨c1, by rw [← h20]; exact c2, c3⟩] at nx
      rw [nI_1]; exact nx
  exact ⟨5, loop 4 0 rfl⟩
-- a second
def cSecG (h : xH) : xH := if ¬ h 0 7 ≤ 0 ∧ h 0 5 - h 0 5 / h 0 7 * h 0 7 = 0 then cGive 6 h else h
def cSec (h : xH) : xH := cAge 4 (cDueL 6 (cSecG (xup h 0 5 (h 0 5 + 1))))
def fSec (m : xH) : xH := fAge 4 (fDueL 6 (fGive 6 (xup m 60 1 (m 60 1 + 1))))
theorem C_sec {h : xH} {K : Unit → xH → Prop} (hK : K () (cSec h)) : w_X5_passOneSecond h K := by
  rintro h1 rfl
  unfold cSec at hK
  generalize xup h 0 5 (h 0 5 + 1) = g at hK ⊢
  have p33 : ∀ q, K () (cAge 4 (cDueL 6 q)) → w_X5_passOneSecond_33 K q := fun q hq => C_tellDue (C_age hq)
  refine ⟨fun c => p33 _ ?_, fun c => ⟨fun z => c (by rw [z]; exact Int32.le_refl 0), fun c2 => C_give (p33 _ ?_), fun c2 => p33 _ ?_⟩⟩
  · rw [cSecG, if_neg (fun q => q.1 c)] at hK; exact hK
  · rw [cSecG, if_pos ⟨c, c2⟩] at hK; exact hK
  · rw [cSecG, if_neg (fun q => c2 q.2)] at hK; exact hK
theorem time_GG {c : Int32} {h m : xH} (g : GG c h m) : GG c (xup h 0 5 (h 0 5 + 1)) (xup m 60 1 (m 60 1 + 1)) := by
  obtain ⟨⟨g1, g2, g3, g4⟩, N, n, gf, hn, h4, hp⟩ := g
  refine ⟨⟨?_, fun k hk => ?_, fun k hk => ?_, ?_⟩, N, n, ?_, ?_, h4, ?_⟩
  · rw [g1.1]
    refine ⟨by rw [xup_same, xup_same], ?_⟩
    simpa [xup] using g1.2
  · unfold RS
    rw [xup_row (by omega), xup_row (by decide), xup_row (by decide), xup_row (by decide), xup_row (by decide), xup_row (by decide)]
    exact g2 k hk
  · rw [xup_row (by decide), xup_row (by decide)]; exact g3 k hk
  · unfold RLg at g4 ⊢
    simpa [xup] using g4
  · exact GF_fr gf (by omega) (xup_row (by decide)) (xup_row (by decide)) (fun k h1 h2 => xup_row (by omega)) (fun k h1 h2 => xup_row (by omega)) (xup_row (by decide)) (fun b h1 h2 => xup_ne (Or.inr (by omega)))
  · rw [xup_ne (Or.inr (by decide))]; exact hn
  · rw [cntN_fr (xup_row (by decide)) (xup_row (by decide)) 6]; exact hp
theorem secG_GG {c : Int32} {h m : xH} (g : GG c h m) : GG c (cSecG h) (fGive 6 m) := by
  have h3 := g.1.1.2.2.1
  have h1 := g.1.1.1
  have hp := g.1.1.2.2.2.2.2
  have hn : ¬ m 60 3 ≤ 0 := (i32_lt hp).2
  unfold cSecG
  rw [h3, h1]
  by_cases e : fTick m
  · rw [if_pos ⟨hn, e⟩]
    exact give_GG e g 6 (Nat.le_refl 6)
  · rw [if_neg (fun q => e q.2), fGive_no e]
    exact g
theorem sec_GG {c : Int32} {h m : xH} (g : GG c h m) : GG c (cSec h) (fSec m) := age_GG (due_GG 6 _ _ (secG_GG (time_GG g))) 4 (Nat.le_refl 4)
theorem M_sec {c : Int32} {h m : xH} {K : Unit → xH → Prop} (g : GG c h m) (hK : K () (fSec m)) : w_X6_passes m K := by
  rintro h1 rfl
  unfold fSec at hK
  have gt := time_GG g
  generalize xup m 60 1 (m 60 1 + 1) = q at hK gt ⊢
  generalize xup h 0 5 (h 0 5 + 1) = hh at gt
  have g3 : 0 < q 60 3 := gt.1.1.2.2.2.2.2
  have gg := secG_GG gt
  have loop : ∀ d i, i + d = 6 → w_X6_passes_12 K (d + 1) (nI i) (fGive i q) := by
    intro d
    induction d with
    | zero =>
      intro i hi
      have h6 : i = 6 := by omega
      subst h6
      rw [w_X6_passes_12_s]
      refine ⟨fun _ => M_due ?_, fun c => absurd (nI_le (Nat.le_refl 6) (by decide)) c⟩
      refine ⟨7, M_dueL 6 _ _ gg (cR_le 6) ?_⟩
      exact M_age (due_GG 6 _ _ gg) hK
    | succ d ih =>
      intro i hi
      have nx := ih (i + 1) (by omega)
      rw [show fGive (i + 1) q = xup (fGive i q) 65 i (fGive i q 65 i + (if fTick (fGive i q) ∧ ¬ fGive i q 60 2 ≤ fGive i q 65 i then 1 else 0)) from rfl] at nx
      rw [w_X6_passes_12_s, nI_clamp (by omega)]
      have hin : vp_in (nI i) 6 := vp_in_nI (by omega) (by decide)
      have hz : ¬ fGive i q 60 3 = 0 := by
        rw [fGive_60]
        intro z
        rw [z] at g3
        exact absurd g3 (by decide)
      have p55 : ∀ y : Int32, (y = if fTick (fGive i q) ∧ ¬ fGive i q 60 2 ≤ fGive i q 65 i then 1 else 0) → w_X6_passes_55 K (w_X6_passes_12 K (d + 1)) (nI i) (nI i) (fGive i q 65 i) y (fGive i q) := by
        intro y hy
        unfold w_X6_passes_55
        rw [nI_clamp (by omega)]
        refine ⟨hin, ?_⟩
        rintro h30 rfl x rfl
        rw [nI_1, hy]
        exact nx
      refine ⟨fun c => absurd c (nI_ge (show i < 6 by omega) (by decide)), fun _ => ⟨hin, hz, fun c1 => ⟨hin, fun c2 => ?_, fun c2 => ?_⟩, fun c1 => ?_⟩⟩
      · exact p55 0 (by rw [if_neg (fun z => z.2 c2)])
      · exact p55 1 (by rw [if_pos ⟨c1, c2⟩])
      · exact p55 0 (by rw [if_neg (fun z => c1 z.1)])
  exact ⟨7, loop 6 0 rfl⟩
-- pass
def cSecs : Nat → xH → xH
  | 0, h => h
  | n + 1, h => cSecs n (cSec h)
def fSecs : Nat → xH → xH
  | 0, m => m
  | n + 1, m => fSecs n (fSec m)
theorem secs_GG {c : Int32} : ∀ n, ∀ h m : xH, GG c h m → GG c (cSecs n h) (fSecs n m) := by
  intro n
  induction n with
  | zero => intro h m g; exact g
  | succ n ih => intro h m g; exact ih _ _ (sec_GG g)
theorem C_rots {h : xH} {K : Int32 → xH → Prop} (hK : K (xsum h) h) : w_X5_rotationsOfAllFiles h K := by
  refine ⟨5, ?_⟩
  have st : ∀ (i d : Nat) (v : Int32), i < 4 → w_X5_rotationsOfAllFiles_4 K d (v + h (30 + i) 9) (nI (i + 1)) h → w_X5_rotationsOfAllFiles_4 K (d + 1) v (nI i) h := by
    intro i d v hi hn
    rw [w_X5_rotationsOfAllFiles_4_s, nI_clamp (by omega)]
    refine ⟨fun c => absurd c (nI_ge hi (by decide)), fun _ => ⟨vp_in_nI hi (by decide), ?_⟩⟩
    rintro x5 rfl x6 rfl
    rw [nI_1]; exact hn
  refine st 0 4 0 (by decide) (st 1 3 _ (by decide) (st 2 2 _ (by decide) (st 3 1 _ (by decide) ?_)))
  rw [w_X5_rotationsOfAllFiles_4_s]
  refine ⟨fun _ => ?_, fun c => absurd (nI_le (Nat.le_refl 4) (by decide)) c⟩
  rw [Int32.zero_add]
  exact hK
theorem C_pass {n : Nat} {h : xH} {K : Int32 → xH → Prop} {KX : String → xH → Prop} (h1 : 1 ≤ n) (h2 : n ≤ 100) (hK : K (xsum (cSecs n h) - xsum h) (cSecs n h)) : w_X5_pass (nI n) h K KX := by
  have loop : ∀ d i, i + d = n → ∀ g, K (xsum (cSecs d g) - xsum h) (cSecs d g) → w_X5_pass_27 (nI n) K KX (d + 1) (xsum h) (nI i) g := by
    intro d
    induction d with
    | zero =>
      intro i hi g hg
      have e : i = n := by omega
      subst e
      rw [w_X5_pass_27_s]
      exact ⟨fun _ => C_rots hg, fun c => absurd (nI_le (Nat.le_refl i) (by omega)) c⟩
    | succ d ih =>
      intro i hi g hg
      rw [w_X5_pass_27_s]
      refine ⟨fun c => absurd c (nI_ge (show i < n by omega) (by omega)), fun _ => C_sec ?_⟩
      rintro x rfl
      rw [nI_1]
      exact ih (i + 1) (by omega) _ hg
  refine C_isWithin (fun _ _ => ⟨fun q => absurd q (by decide), fun _ => C_rots ⟨n + 1, loop n 0 (by omega) h hK⟩⟩) (fun q => absurd q (fun z => by rcases z with z | z; exact nI_nlt (a := n) (b := 1) h1 (by omega) z; exact (nI_rng (n := n) (hi := 100) h2 (by decide)).2 z))
theorem GG_30 {c : Int32} {h m : xH} (g : GG c h m) : GG (xsum h) h (xup m 60 30 0) := by
  obtain ⟨gs, N, n, ⟨g1, g2, g3, g4, g5, g6⟩, hn, h4, hp⟩ := g
  refine ⟨GS_fr gs rfl (fun _ _ _ => rfl) rfl rfl rfl (fun k h1 h2 => xup_row (by omega)) (xup_ne (Or.inr (by decide))) (xup_ne (Or.inr (by decide))) (xup_ne (Or.inr (by decide))) (xup_ne (Or.inr (by decide))) (xup_ne (Or.inr (by decide))) (xup_row (by decide)) (xup_row (by decide)), N, n, ⟨⟨fun f hf => ?_, ?_⟩, ?_, ?_, ?_, fun f hf => ?_, ?_⟩, ?_, h4, ?_⟩
  · exact RF_fr (g1.1 f hf) (OF_mono (g5 f hf) (by omega)) rfl rfl rfl (by rw [xup_row (by decide)]) (fun j _ => by rw [xup_row (by decide)]) (by rw [xup_row (by decide)]) (by rw [xup_row (by decide)]) (by rw [xup_row (by decide)]) (by rw [xup_row (by decide)]) (by rw [xup_row (by decide)]) (fun j _ => by rw [xup_row (by decide)]) (fun j _ => by rw [xup_row (by decide)])
  · rw [xup_same, Int32.add_zero]
  · exact RW_fr g2 rfl rfl (xup_ne (Or.inr (by decide))) (xup_ne (Or.inr (by decide))) (xup_ne (Or.inr (by decide))) (xup_ne (Or.inr (by decide))) (xup_ne (Or.inr (by decide))) (xup_row (by decide))
  · exact RR_fr g3 (fun _ _ _ => rfl) (fun k h1 h2 => xup_row (by omega))
  · exact OR_fr g4 (fun k h1 h2 => xup_row (by omega))
  · exact OF_fr (g5 f hf) (by rw [xup_row (by decide)]) (fun j _ => by rw [xup_row (by decide)]) (by rw [xup_row (by decide)]) (by rw [xup_row (by decide)]) (by rw [xup_row (by decide)])
  · exact OW_fr g6 (xup_ne (Or.inr (by decide))) (xup_ne (Or.inr (by decide))) (xup_ne (Or.inr (by decide))) (xup_ne (Or.inr (by decide)))
  · rw [xup_ne (Or.inr (by decide))]; exact hn
  · rw [cntN_fr (xup_row (by decide)) (xup_row (by decide)) 6]; exact hp
theorem M_pass {c : Int32} {n : Nat} {h m : xH} {K : Int32 → xH → Prop} (h1 : 1 ≤ n) (h2 : n ≤ 100) (g : GG c h m) (hK : K (fSecs n (xup (xup m 60 0 0) 60 30 0) 60 30) (fSecs n (xup (xup m 60 0 0) 60 30 0))) : w_X6_pass (nI n) m K := by
  have loop : ∀ d i, i + d = n → ∀ hh q, GG (xsum h) hh q → K (fSecs d q 60 30) (fSecs d q) → w_X6_pass_31 (nI n) K (d + 1) (nI i) q := by
    intro d
    induction d with
    | zero =>
      intro i hi hh q gq hq
      have e : i = n := by omega
      subst e
      rw [w_X6_pass_31_s]
      exact ⟨fun _ => hq, fun c => absurd (nI_le (Nat.le_refl i) (by omega)) c⟩
    | succ d ih =>
      intro i hi hh q gq hq
      rw [w_X6_pass_31_s]
      refine ⟨fun c => absurd c (nI_ge (show i < n by omega) (by omega)), fun _ => M_sec gq ?_⟩
      rintro x rfl
      rw [nI_1]
      exact ih (i + 1) (by omega) _ _ (sec_GG gq) hq
  refine M_isIn (fun _ _ => ⟨fun q => absurd q (by decide), fun _ => M_holds ⟨fun q => absurd q (by decide), fun _ => ?_⟩⟩) (fun q => absurd q (fun z => by rcases z with z | z; exact nI_nlt (a := n) (b := 1) h1 (by omega) z; exact (nI_rng (n := n) (hi := 100) h2 (by decide)).2 z))
  rintro h7 rfl
  exact ⟨n + 1, loop n 0 (by omega) h _ (GG_30 (GG_0 g)) hK⟩
