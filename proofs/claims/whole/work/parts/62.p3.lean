/-! PURE PART 3: files, forwarder and rules of the class beside the reference's -/
theorem cRot_o {k a : Nat} {h : xH} (h1 : a ≠ k) (h2 : a ≠ k + 20) : cRot k h a = h a := by
  funext b
  simp only [cRot, if_neg h1, if_neg h2]
theorem cPut_o {k a : Nat} {line len : Int32} {h : xH} (h1 : a ≠ k) (h2 : a ≠ k + 10) : cPut k line len h a = h a := by
  unfold cPut
  split
  · rfl
  · rw [xup_row h1, xup_row h1, xup_row h2]
theorem cAdd_o {k a : Nat} {line len now : Int32} {h : xH} (h1 : a ≠ k) (h2 : a ≠ k + 10) (h3 : a ≠ k + 20) : cAdd k line len now h a = h a := by
  unfold cAdd
  rw [cPut_o h1 h2]
  unfold cAddF
  have e : cAddR k len h a = h a := by
    unfold cAddR
    split
    · rfl
    · exact cRot_o h1 h3
  split
  · rw [xup_row h1, e]
  · exact e
theorem cTake_o {a : Nat} {line : Int32} {h : xH} (h1 : a ≠ 4) (h2 : a ≠ 5) : cTake line h a = h a := by
  unfold cTake
  split
  · exact xup_row h1
  · rw [xup_row h1, xup_row h2]
theorem fRot_o {f a : Nat} {m : xH} (h1 : a ≠ 81) (h2 : a ≠ 80) (h3 : a ≠ 78) (h4 : a ≠ 60) : fRot f m a = m a := by
  funext b
  simp [fRot, h1, h2, h3, h4]
theorem fRot_60 {f b : Nat} {m : xH} (h : b ≠ 30) : fRot f m 60 b = m 60 b := by simp [fRot, h]
theorem fRot_6030 {f : Nat} {m : xH} : fRot f m 60 30 = m 60 30 + 1 := by simp [fRot]
theorem fRot_80 {f b : Nat} {m : xH} (h : b ≠ f) : fRot f m 80 b = m 80 b := by simp [fRot, h]
theorem fRot_80s {f : Nat} {m : xH} : fRot f m 80 f = if m 77 f ≤ m 80 f then m 80 f else m 80 f + 1 := by simp [fRot]
theorem fRot_78 {f b : Nat} {m : xH} (h : b ≠ f) : fRot f m 78 b = m 78 b := by simp [fRot, h]
theorem fRot_78s {f : Nat} {m : xH} : fRot f m 78 f = 0 := by simp [fRot]
theorem fRot_81 {f b : Nat} {m : xH} (h : ¬ (7 * f ≤ b ∧ b ≤ 7 * f + 6)) : fRot f m 81 b = m 81 b := by simp [fRot, h]
theorem fRot_810 {f : Nat} {m : xH} : fRot f m 81 (7 * f) = m 79 f := by simp [fRot]
theorem fRot_81s {f j : Nat} {m : xH} (h : j < 6) : fRot f m 81 (7 * f + (j + 1)) = m 81 (7 * f + j) := by
  unfold fRot
  rw [if_pos (by omega), if_neg (by omega), show 7 * f + (j + 1) - 1 = 7 * f + j by omega]
theorem fPut_o {f a : Nat} {line len : Int32} {m : xH} (h1 : a ≠ 82) (h2 : a ≠ 83) (h3 : a ≠ 79) (h4 : a ≠ 78) : fPut f line len m a = m a := by
  unfold fPut
  rw [xup_row h4, xup_row h3, xup_row h2, xup_row h1]
theorem fPut_79 {f b : Nat} {line len : Int32} {m : xH} (h : b ≠ f) : fPut f line len m 79 b = m 79 b := by
  unfold fPut
  rw [xup_ne (Or.inl (by decide)), xup_ne (Or.inr h), xup_ne (Or.inl (by decide)), xup_ne (Or.inl (by decide))]
theorem fPut_79s {f : Nat} {line len : Int32} {m : xH} : fPut f line len m 79 f = m 79 f + 1 := by
  unfold fPut
  rw [xup_ne (Or.inl (by decide)), xup_same]
theorem fPut_78 {f b : Nat} {line len : Int32} {m : xH} (h : b ≠ f) : fPut f line len m 78 b = m 78 b := by
  unfold fPut
  rw [xup_ne (Or.inr h), xup_ne (Or.inl (by decide)), xup_ne (Or.inl (by decide)), xup_ne (Or.inl (by decide))]
theorem fPut_78s {f : Nat} {line len : Int32} {m : xH} : fPut f line len m 78 f = m 78 f + len := by
  unfold fPut
  rw [xup_same]
theorem fPut_82 {f b : Nat} {line len : Int32} {m : xH} : fPut f line len m 82 b = if b = 400 * f + (m 79 f).toNatClampNeg then line else m 82 b := by
  unfold fPut
  rw [xup_ne (Or.inl (by decide)), xup_ne (Or.inl (by decide)), xup_ne (Or.inl (by decide))]
  simp [xup]
theorem fPut_83 {f b : Nat} {line len : Int32} {m : xH} : fPut f line len m 83 b = if b = 400 * f + (m 79 f).toNatClampNeg then m 60 1 else m 83 b := by
  unfold fPut
  rw [xup_ne (Or.inl (by decide)), xup_ne (Or.inl (by decide))]
  simp [xup]
-- one file
def RF (h m : xH) (f : Nat) : Prop :=
  h (30 + f) 2 = m 79 f ∧ h (30 + f) 3 = m 75 f ∧ h (30 + f) 4 = m 76 f ∧ h (30 + f) 5 = m 77 f ∧ h (30 + f) 7 = m 78 f ∧ h (30 + f) 8 = m 80 f ∧ (∀ j, j < 6 → h (30 + f + 20) j = m 81 (7 * f + j)) ∧ (∀ j, j < (m 79 f).toNatClampNeg → h (30 + f + 10) j = m 82 (400 * f + j)) ∧ (¬ m 79 f = m 81 (7 * f) → h (30 + f) 6 = m 83 (400 * f + (m 81 (7 * f)).toNatClampNeg))
def OF (m : xH) (f N : Nat) : Prop := ∃ (e : Nat) (s : Nat → Nat), m 79 f = nI e ∧ (∀ j, j < 7 → m 81 (7 * f + j) = nI (s j)) ∧ s 0 ≤ e ∧ (∀ j, j < 6 → s (j + 1) ≤ s j) ∧ e ≤ N ∧ (∃ g k : Nat, m 80 f = nI g ∧ m 77 f = nI k ∧ g ≤ 5 ∧ k ≤ 5) ∧ ¬ m 76 f < 0
theorem OF_mono {m : xH} {f N M : Nat} (h : OF m f N) (hNM : N ≤ M) : OF m f M := by
  obtain ⟨e, s, h1, h2, h3, h4, h5, h6⟩ := h
  exact ⟨e, s, h1, h2, h3, h4, Nat.le_trans h5 hNM, h6⟩
theorem OF_fr {m m' : xH} {f N : Nat} (h : OF m f N) (h79 : m' 79 f = m 79 f) (h81 : ∀ j, j < 7 → m' 81 (7 * f + j) = m 81 (7 * f + j)) (h80 : m' 80 f = m 80 f) (h77 : m' 77 f = m 77 f) (h76 : m' 76 f = m 76 f) : OF m' f N := by
  obtain ⟨e, s, h1, h2, h3, h4, h5, ⟨g, k, h6, h7, h8⟩, h9⟩ := h
  exact ⟨e, s, by rw [h79]; exact h1, fun j hj => by rw [h81 j hj]; exact h2 j hj, h3, h4, h5, ⟨g, k, by rw [h80]; exact h6, by rw [h77]; exact h7, h8⟩, by rw [h76]; exact h9⟩
theorem OF_len {m : xH} {f N : Nat} (h : OF m f N) (hN : N ≤ 400) : (m 79 f).toNatClampNeg ≤ 400 ∧ (m 81 (7 * f)).toNatClampNeg ≤ (m 79 f).toNatClampNeg := by
  obtain ⟨e, s, h1, h2, h3, h4, h5, -⟩ := h
  have h20 := h2 0 (by decide)
  rw [Nat.add_zero] at h20
  rw [h1, h20, nI_clamp (by omega), nI_clamp (by omega)]
  omega
theorem RF_fr {h h' m m' : xH} {f : Nat} (r : RF h m f) (hN : OF m f 400) (a0 : h' (30 + f) = h (30 + f)) (a1 : h' (30 + f + 10) = h (30 + f + 10)) (a2 : h' (30 + f + 20) = h (30 + f + 20)) (h79 : m' 79 f = m 79 f) (h81 : ∀ j, j < 7 → m' 81 (7 * f + j) = m 81 (7 * f + j)) (h80 : m' 80 f = m 80 f) (h77 : m' 77 f = m 77 f) (h76 : m' 76 f = m 76 f) (h75 : m' 75 f = m 75 f) (h78 : m' 78 f = m 78 f)
    (h82 : ∀ j, j < 400 → m' 82 (400 * f + j) = m 82 (400 * f + j)) (h83 : ∀ j, j < 400 → m' 83 (400 * f + j) = m 83 (400 * f + j)) : RF h' m' f := by
  obtain ⟨r1, r2, r3, r4, r5, r6, r7, r8, r9⟩ := r
  obtain ⟨l1, l2⟩ := OF_len hN (Nat.le_refl _)
  have h810 := h81 0 (by decide)
  rw [Nat.add_zero] at h810
  refine ⟨by rw [a0, h79]; exact r1, by rw [a0, h75]; exact r2, by rw [a0, h76]; exact r3, by rw [a0, h77]; exact r4, by rw [a0, h78]; exact r5, by rw [a0, h80]; exact r6, fun j hj => by rw [a2, h81 j (by omega)]; exact r7 j hj, fun j hj => ?_, fun hn => ?_⟩
  · rw [h79] at hj
    rw [a1, h82 j (by omega)]
    exact r8 j hj
  · rw [h79, h810] at hn
    rw [h810, a0]
    have hlt : (m 81 (7 * f)).toNatClampNeg < 400 := by
      obtain ⟨e, s, e1, e2, e3, e4, e5, -⟩ := hN
      have h20 := e2 0 (by decide)
      rw [Nat.add_zero] at h20
      rw [h20, nI_clamp (by omega)]
      rw [e1, h20] at hn
      have : e ≠ s 0 := fun q => hn (by rw [q])
      omega
    rw [h83 _ hlt]
    exact r9 hn
theorem OF_rot {m : xH} {f N : Nat} (h : OF m f N) (hN : N ≤ 400) : OF (fRot f m) f N := by
  obtain ⟨e, s, h1, h2, h3, h4, h5, ⟨g, k, h6, h7, h8, h9⟩, h10⟩ := h
  refine ⟨e, fun j => match j with | 0 => e | j + 1 => s j, ?_, ?_, Nat.le_refl _, ?_, h5, ?_, ?_⟩
  · rw [fRot_o (by decide) (by decide) (by decide) (by decide)]; exact h1
  · intro j hj
    match j with
    | 0 => rw [Nat.add_zero, fRot_810]; exact h1
    | j + 1 => rw [fRot_81s (by omega)]; exact h2 j (by omega)
  · intro j hj
    match j with
    | 0 => exact h3
    | j + 1 => exact h4 j (by omega)
  · rw [fRot_80s, fRot_o (by decide) (by decide) (by decide) (by decide), h6, h7]
    by_cases c : nI k ≤ nI g
    · rw [if_pos c]; exact ⟨g, k, rfl, rfl, h8, h9⟩
    · rw [if_neg c]
      have : ¬ k ≤ g := fun q => c (nI_le q (by omega))
      exact ⟨g + 1, k, nI_1 g, rfl, by omega, h9⟩
  · rw [fRot_o (by decide) (by decide) (by decide) (by decide)]; exact h10
theorem OF_rot' {m : xH} {f f' N : Nat} (h : OF m f' N) (hf : f' ≠ f) : OF (fRot f m) f' N :=
  OF_fr h (by rw [fRot_o (by decide) (by decide) (by decide) (by decide)]) (fun j hj => fRot_81 (by omega)) (fRot_80 hf) (by rw [fRot_o (by decide) (by decide) (by decide) (by decide)]) (by rw [fRot_o (by decide) (by decide) (by decide) (by decide)])
theorem RF_rot {h m : xH} {f : Nat} (r : RF h m f) : RF (cRot (30 + f) h) (fRot f m) f := by
  obtain ⟨r1, r2, r3, r4, r5, r6, r7, r8, r9⟩ := r
  have e79 : fRot f m 79 = m 79 := fRot_o (by decide) (by decide) (by decide) (by decide)
  have n20 : ¬ (30 + f = 30 + f + 20) := by omega
  refine ⟨?_, ?_, ?_, ?_, ?_, ?_, ?_, ?_, ?_⟩
  · rw [e79]; simp [cRot]; exact r1
  · rw [fRot_o (by decide) (by decide) (by decide) (by decide)]; simp [cRot]; exact r2
  · rw [fRot_o (by decide) (by decide) (by decide) (by decide)]; simp [cRot]; exact r3
  · rw [fRot_o (by decide) (by decide) (by decide) (by decide)]; simp [cRot]; exact r4
  · rw [fRot_78s]; simp [cRot]
  · rw [fRot_80s, ← r4, ← r6]; simp [cRot]
  · intro j hj
    match j with
    | 0 =>
      show cRot (30 + f) h (30 + f + 20) 0 = fRot f m 81 (7 * f)
      rw [fRot_810]; simp [cRot]; exact r1
    | j + 1 =>
      rw [fRot_81s (by omega), ← r7 j (by omega)]
      simp [cRot]; omega
  · intro j hj
    rw [e79] at hj
    rw [fRot_o (by decide) (by decide) (by decide) (by decide), cRot_o (by omega) (by omega)]
    exact r8 j hj
  · intro hn
    rw [e79, fRot_810] at hn
    exact absurd rfl hn
theorem RF_rot' {h m : xH} {f f' : Nat} (hN : OF m f' 400) (r : RF h m f') (hf : f' ≠ f) (h4 : f < 4) (h4' : f' < 4) : RF (cRot (30 + f) h) (fRot f m) f' :=
  RF_fr r hN (cRot_o (by omega) (by omega)) (cRot_o (by omega) (by omega)) (cRot_o (by omega) (by omega)) (by rw [fRot_o (by decide) (by decide) (by decide) (by decide)]) (fun j hj => fRot_81 (by omega)) (fRot_80 hf) (by rw [fRot_o (by decide) (by decide) (by decide) (by decide)]) (by rw [fRot_o (by decide) (by decide) (by decide) (by decide)]) (by rw [fRot_o (by decide) (by decide) (by decide) (by decide)]) (fRot_78 hf) (fun j hj => by rw [fRot_o (by decide) (by decide) (by decide) (by decide)]) (fun j hj => by rw [fRot_o (by decide) (by decide) (by decide) (by decide)])
def xsum (h : xH) : Int32 := h 30 9 + h 31 9 + h 32 9 + h 33 9
theorem xsum_rot {h : xH} {f : Nat} (hf : f < 4) : xsum (cRot (30 + f) h) = xsum h + 1 := by
  have hc : ∀ a b c d : Int32, a + 1 + b + c + d = a + b + c + d + 1 ∧ a + (b + 1) + c + d = a + b + c + d + 1 ∧ a + b + (c + 1) + d = a + b + c + d + 1 ∧ a + b + c + (d + 1) = a + b + c + d + 1 := by
    intro a b c d
    refine ⟨?_, ?_, ?_, ?_⟩ <;> grind
  unfold xsum
  rcases (show f = 0 ∨ f = 1 ∨ f = 2 ∨ f = 3 by omega) with rfl | rfl | rfl | rfl
  · simp [cRot]; exact (hc _ _ _ _).1
  · simp [cRot]; exact (hc _ _ _ _).2.1
  · simp [cRot]; exact (hc _ _ _ _).2.2.1
  · simp [cRot]; exact (hc _ _ _ _).2.2.2
theorem xsum_fr {h h' : xH} (h0 : ∀ k, 30 ≤ k → k < 34 → h' k 9 = h k 9) : xsum h' = xsum h := by
  unfold xsum
  rw [h0 30 (by decide) (by decide), h0 31 (by decide) (by decide), h0 32 (by decide) (by decide), h0 33 (by decide) (by decide)]
/-- all files: related, in order, the turns counted alike from c on -/
def RA (c : Int32) (h m : xH) : Prop := (∀ f, f < 4 → RF h m f) ∧ xsum h = c + m 60 30
theorem nz_sub {e s : Nat} (hs : s ≤ e) (he : e ≤ 400) : (nI e - nI s ≤ 0) ↔ nI e = nI s := by
  rw [pk_sub hs, ← nI_0, nI_leI (by omega) (by omega), nI_eq (by omega) (by omega)]
  omega
theorem add_R {c : Int32} {h m : xH} {f : Nat} {len : Int32} (hf : f < 4) (hO : ∀ f, f < 4 → OF m f 400) (r : RA c h m) : RA c (cAddR (30 + f) len h) (fComeR f len m) := by
  obtain ⟨r1, r2⟩ := r
  have rf := r1 f hf
  have hc : (h (30 + f) 2 = h (30 + f + 20) 0 ∨ h (30 + f) 7 + len ≤ h (30 + f) 3) ↔ (m 79 f - m 81 (7 * f) ≤ 0 ∨ m 78 f + len ≤ m 75 f) := by
    obtain ⟨e, s, h1, h2, h3, h4, h5, -⟩ := hO f hf
    have h20 := h2 0 (by decide)
    have r70 : h (30 + f + 20) 0 = m 81 (7 * f) := rf.2.2.2.2.2.2.1 0 (by decide)
    rw [Nat.add_zero] at h20
    rw [rf.1, rf.2.1, rf.2.2.2.2.1, r70, h1, h20, nz_sub h3 h5]
  unfold cAddR fComeR
  by_cases c1 : (h (30 + f) 2 = h (30 + f + 20) 0 ∨ h (30 + f) 7 + len ≤ h (30 + f) 3)
  · rw [if_pos c1, if_pos (hc.mp c1)]; exact ⟨r1, r2⟩
  · rw [if_neg c1, if_neg (fun q => c1 (hc.mpr q))]
    refine ⟨fun f' hf' => ?_, ?_⟩
    · by_cases e : f' = f
      · subst e; exact RF_rot rf
      · exact RF_rot' (hO f' hf') (r1 f' hf') e hf hf'
    · rw [xsum_rot hf, r2, fRot_6030, Int32.add_assoc]
theorem comeR_O {m : xH} {f f' N : Nat} {len : Int32} (h : OF m f' N) (hN : N ≤ 400) : OF (fComeR f len m) f' N := by
  unfold fComeR
  split
  · exact h
  · by_cases e : f' = f
    · subst e; exact OF_rot h hN
    · exact OF_rot' h e
theorem put_R {c : Int32} {h m : xH} {f : Nat} {line len : Int32} (hf : f < 4) (hO : ∀ f, f < 4 → OF m f 400) (hOf : OF m f 399) (r : RA c h m) : RA c (cPut (30 + f) line len (cAddF (30 + f) (m 60 1) h)) (fPut f line len m) := by
  obtain ⟨ra, rs⟩ := r
  obtain ⟨r1, r2, r3, r4, r5, r6, r7, r8, r9⟩ := ra f hf
  obtain ⟨e, s, h1, h2, h3, h4, h5, h6, h10⟩ := hOf
  have h20 := h2 0 (by decide)
  have r70 : h (30 + f + 20) 0 = m 81 (7 * f) := r7 0 (by decide)
  rw [Nat.add_zero] at h20
  have hcl : (m 79 f).toNatClampNeg = e := by rw [h1]; exact nI_clamp (by omega)
  -- the class's cells behind
  have hF : ∀ j, j ≠ 6 → cAddF (30 + f) (m 60 1) h (30 + f) j = h (30 + f) j := by
    intro j hj
    unfold cAddF
    split
    · exact xup_ne (Or.inr hj)
    · rfl
  have hFo : ∀ a, a ≠ 30 + f → cAddF (30 + f) (m 60 1) h a = h a := by
    intro a ha
    unfold cAddF
    split
    · exact xup_row ha
    · rfl
  have hguard : ¬ (cAddF (30 + f) (m 60 1) h (30 + f) 2 < 0 ∨ 400 ≤ cAddF (30 + f) (m 60 1) h (30 + f) 2) := by
    rw [hF 2 (by decide), r1, h1]
    intro q
    rcases q with q | q
    · exact nI_pos (by omega) q
    · exact absurd ((nI_leI (by decide) (by omega)).mp (show nI 400 ≤ nI e from q)) (by omega)
  have hput : cPut (30 + f) line len (cAddF (30 + f) (m 60 1) h) = xup (xup (xup (cAddF (30 + f) (m 60 1) h) (30 + f + 10) e line) (30 + f) 2 (m 79 f + 1)) (30 + f) 7 (m 78 f + len) := by
    unfold cPut
    rw [if_neg hguard, hF 2 (by decide), hF 7 (by decide), r1, r5, hcl]
  rw [hput]
  refine ⟨fun f' hf' => ?_, ?_⟩
  · by_cases ef : f' = f
    · subst ef
      refine ⟨?_, ?_, ?_, ?_, ?_, ?_, ?_, ?_, ?_⟩
      · rw [xup_ne (Or.inr (by decide)), xup_same, fPut_79s]
      · rw [xup_ne (Or.inr (by decide)), xup_ne (Or.inr (by decide)), xup_ne (Or.inl (by omega)), hF 3 (by decide), fPut_o (by decide) (by decide) (by decide) (by decide)]; exact r2
      · rw [xup_ne (Or.inr (by decide)), xup_ne (Or.inr (by decide)), xup_ne (Or.inl (by omega)), hF 4 (by decide), fPut_o (by decide) (by decide) (by decide) (by decide)]; exact r3
      · rw [xup_ne (Or.inr (by decide)), xup_ne (Or.inr (by decide)), xup_ne (Or.inl (by omega)), hF 5 (by decide), fPut_o (by decide) (by decide) (by decide) (by decide)]; exact r4
      · rw [xup_same, fPut_78s]
      · rw [xup_ne (Or.inr (by decide)), xup_ne (Or.inr (by decide)), xup_ne (Or.inl (by omega)), hF 8 (by decide), fPut_o (by decide) (by decide) (by decide) (by decide)]; exact r6
      · intro j hj
        rw [xup_row (by omega), xup_row (by omega), xup_row (by omega), hFo _ (by omega), fPut_o (by decide) (by decide) (by decide) (by decide)]
        exact r7 j hj
      · intro j hj
        rw [fPut_79s, h1, nI_1, nI_clamp (by omega)] at hj
        rw [xup_row (by omega), xup_row (by omega), fPut_82, hcl]
        by_cases ej : j = e
        · subst ej
          rw [xup_same, if_pos rfl]
        · rw [xup_ne (Or.inr ej), if_neg (by omega), hFo _ (by omega)]
          exact r8 j (by rw [hcl]; omega)
      · intro hn
        have e81 : fPut f' line len m 81 = m 81 := fPut_o (by decide) (by decide) (by decide) (by decide)
        rw [e81, h20, nI_clamp (by omega), fPut_83, hcl, xup_ne (Or.inr (by decide)), xup_ne (Or.inr (by decide)), xup_ne (Or.inl (by omega))]
        by_cases es : s 0 = e
        · rw [if_pos (by omega)]
          unfold cAddF
          rw [if_pos (by rw [r1, r70, h1, h20, es]), xup_same]
        · have hne : ¬ h (30 + f') 2 = h (30 + f' + 20) 0 := by
            rw [r1, r70, h1, h20]
            exact fun q => es ((nI_eq (by omega) (by omega)).mp q).symm
          rw [if_neg (by omega)]
          unfold cAddF
          rw [if_neg hne]
          have h9 := r9 (by rw [← r1, ← r70]; exact hne)
          rw [h20, nI_clamp (by omega)] at h9
          exact h9
    · refine RF_fr (ra f' hf') (hO f' hf') ?_ ?_ ?_ (fPut_79 ef) (fun j hj => by rw [fPut_o (by decide) (by decide) (by decide) (by decide)]) (by rw [fPut_o (by decide) (by decide) (by decide) (by decide)]) (by rw [fPut_o (by decide) (by decide) (by decide) (by decide)]) (by rw [fPut_o (by decide) (by decide) (by decide) (by decide)]) (by rw [fPut_o (by decide) (by decide) (by decide) (by decide)]) (fPut_78 ef) (fun j hj => ?_) (fun j hj => ?_)
      · rw [xup_row (by omega), xup_row (by omega), xup_row (by omega), hFo _ (by omega)]
      · rw [xup_row (by omega), xup_row (by omega), xup_row (by omega), hFo _ (by omega)]
      · rw [xup_row (by omega), xup_row (by omega), xup_row (by omega), hFo _ (by omega)]
      · rw [fPut_82, hcl, if_neg (by omega)]
      · rw [fPut_83, hcl, if_neg (by omega)]
  · rw [fPut_o (by decide) (by decide) (by decide) (by decide)]
    rw [← rs]
    refine xsum_fr (fun k hk1 hk2 => ?_)
    rw [xup_ne (Or.inr (by decide)), xup_ne (Or.inr (by decide)), xup_row (by omega)]
    unfold cAddF
    split
    · exact xup_ne (Or.inr (by decide))
    · rfl
theorem put_O {m : xH} {f f' N : Nat} {line len : Int32} (h : OF m f' N) (hN : f' = f → N ≤ 399) (hf : f' ≠ f ∨ f' = f) : OF (fPut f line len m) f' (if f' = f then N + 1 else N) := by
  by_cases e : f' = f
  · subst e
    rw [if_pos rfl]
    obtain ⟨e, s, h1, h2, h3, h4, h5, ⟨g, k, h6, h7, h8⟩, h9⟩ := h
    have hN' := hN rfl
    refine ⟨e + 1, s, ?_, fun j hj => ?_, by omega, h4, by omega, ⟨g, k, ?_, ?_, h8⟩, ?_⟩
    · rw [fPut_79s, h1, nI_1]
    · rw [fPut_o (by decide) (by decide) (by decide) (by decide)]; exact h2 j hj
    · rw [fPut_o (by decide) (by decide) (by decide) (by decide)]; exact h6
    · rw [fPut_o (by decide) (by decide) (by decide) (by decide)]; exact h7
    · rw [fPut_o (by decide) (by decide) (by decide) (by decide)]; exact h9
  · rw [if_neg e]
    exact OF_fr h (fPut_79 e) (fun j hj => by rw [fPut_o (by decide) (by decide) (by decide) (by decide)]) (by rw [fPut_o (by decide) (by decide) (by decide) (by decide)]) (by rw [fPut_o (by decide) (by decide) (by decide) (by decide)]) (by rw [fPut_o (by decide) (by decide) (by decide) (by decide)])
theorem fComeR_o {f a : Nat} {len : Int32} {m : xH} (h1 : a ≠ 81) (h2 : a ≠ 80) (h3 : a ≠ 78) (h4 : a ≠ 60) : fComeR f len m a = m a := by
  unfold fComeR
  split
  · rfl
  · exact fRot_o h1 h2 h3 h4
theorem fComeR_60 {f b : Nat} {len : Int32} {m : xH} (h : b ≠ 30) : fComeR f len m 60 b = m 60 b := by
  unfold fComeR
  split
  · rfl
  · exact fRot_60 h
theorem fCome_o {f a : Nat} {line len : Int32} {m : xH} (h1 : a < 78 ∨ 83 < a) (h4 : a ≠ 60) : fCome f line len m a = m a := by
  unfold fCome
  rw [fPut_o (by omega) (by omega) (by omega) (by omega), fComeR_o (by omega) (by omega) (by omega) h4]
theorem fCome_60 {f b : Nat} {line len : Int32} {m : xH} (h : b ≠ 30) : fCome f line len m 60 b = m 60 b := by
  unfold fCome
  rw [fPut_o (by decide) (by decide) (by decide) (by decide), fComeR_60 h]
theorem come_R {c : Int32} {h m : xH} {f : Nat} {line len : Int32} (hf : f < 4) (hO : ∀ f, f < 4 → OF m f 400) (hOf : OF m f 399) (ht : h 0 5 = m 60 1) (r : RA c h m) : RA c (cAdd (30 + f) line len (h 0 5) h) (fCome f line len m) := by
  have r1 := add_R (len := len) hf hO r
  have e : m 60 1 = fComeR f len m 60 1 := (fComeR_60 (by decide)).symm
  unfold cAdd fCome
  rw [ht, e]
  exact put_R hf (fun f' hf' => comeR_O (hO f' hf') (Nat.le_refl _)) (comeR_O hOf (by decide)) r1
theorem come_O {m : xH} {f f' N : Nat} {line len : Int32} (h : OF m f' N) (hN : N ≤ 400) (hNf : f' = f → N ≤ 399) : OF (fCome f line len m) f' (if f' = f then N + 1 else N) := by
  unfold fCome
  exact put_O (comeR_O h hN) hNf (by omega)
-- the forwarder
def RW (h m : xH) : Prop := h 4 1 = m 60 26 ∧ h 4 2 = m 60 27 ∧ h 4 3 = m 60 28 ∧ h 4 4 = m 60 29 ∧ h 4 5 = m 60 24 ∧ ∀ j, j < (m 60 26).toNatClampNeg → h 5 j = m 85 j
def OW (m : xH) (N : Nat) : Prop := ∃ t s a : Nat, m 60 26 = nI t ∧ m 60 27 = nI s ∧ m 60 28 = nI a ∧ a ≤ s ∧ s ≤ t ∧ s ≤ a + 5 ∧ t ≤ N ∧ (m 60 24 = 0 ∨ m 60 24 = 1)
theorem OW_mono {m : xH} {N M : Nat} (h : OW m N) (hM : N ≤ M) : OW m M := by
  obtain ⟨t, s, a, h1, h2, h3, h4, h5, h6, h7, h8⟩ := h
  exact ⟨t, s, a, h1, h2, h3, h4, h5, h6, Nat.le_trans h7 hM, h8⟩
theorem OW_fr {m m' : xH} {N : Nat} (h : OW m N) (e26 : m' 60 26 = m 60 26) (e27 : m' 60 27 = m 60 27) (e28 : m' 60 28 = m 60 28) (e24 : m' 60 24 = m 60 24) : OW m' N := by
  unfold OW
  rw [e26, e27, e28, e24]
  exact h
theorem RW_fr {h h' m m' : xH} (r : RW h m) (a4 : h' 4 = h 4) (a5 : h' 5 = h 5) (e26 : m' 60 26 = m 60 26) (e27 : m' 60 27 = m 60 27) (e28 : m' 60 28 = m 60 28) (e29 : m' 60 29 = m 60 29) (e24 : m' 60 24 = m 60 24) (e85 : m' 85 = m 85) : RW h' m' := by
  unfold RW
  rw [a4, a5, e26, e27, e28, e29, e24, e85]
  exact r
theorem fwd_R {h m : xH} {line : Int32} {N : Nat} (hN : N ≤ 399) (hO : OW m N) (r : RW h m) : RW (cTake line h) (fFwd line m) := by
  obtain ⟨r1, r2, r3, r4, r5, r6⟩ := r
  obtain ⟨t, s, a, h1, h2, h3, h4, h5, h6, h7, h8⟩ := hO
  have hcl : (m 60 26).toNatClampNeg = t := by rw [h1]; exact nI_clamp (by omega)
  have hc : (30 ≤ h 4 1 - h 4 3 ∨ h 4 1 < 0 ∨ 400 ≤ h 4 1) ↔ ¬ (m 60 26 - m 60 28 < 30) := by
    rw [r1, r3, h1, h3, pk_sub (by omega), show (30 : Int32) = nI 30 from rfl, nI_leI (by decide) (by omega), nI_ltI (by omega) (by decide), show (400 : Int32) = nI 400 from rfl, nI_leI (by decide) (by omega)]
    have := nI_pos (n := t) (by omega)
    constructor
    · rintro (q | q | q)
      · omega
      · exact absurd q this
      · omega
    · intro q; left; omega
  unfold cTake fFwd
  by_cases c : m 60 26 - m 60 28 < 30
  · rw [if_pos c, if_neg (fun q => hc.mp q c), r1, hcl]
    refine ⟨by rw [xup_same, xup_same], ?_, ?_, ?_, ?_, ?_⟩
    · simpa [xup] using r2
    · simpa [xup] using r3
    · simpa [xup] using r4
    · simpa [xup] using r5
    · intro j hj
      rw [xup_same, h1, nI_1, nI_clamp (by omega)] at hj
      by_cases e : j = t
      · subst e; simp [xup]
      · have := r6 j (by rw [hcl]; omega)
        simp [xup, e]
        exact this
  · rw [if_neg c, if_pos (hc.mpr c), r4]
    refine ⟨?_, ?_, ?_, by rw [xup_same, xup_same], ?_, ?_⟩
    · simpa [xup] using r1
    · simpa [xup] using r2
    · simpa [xup] using r3
    · simpa [xup] using r5
    · intro j hj
      rw [xup_ne (Or.inr (by decide))] at hj
      rw [xup_row (by decide), xup_row (by decide)]
      exact r6 j hj
theorem fwd_O {m : xH} {line : Int32} {N : Nat} (hN : N ≤ 399) (hO : OW m N) : OW (fFwd line m) (N + 1) := by
  obtain ⟨t, s, a, h1, h2, h3, h4, h5, h6, h7, h8⟩ := hO
  unfold fFwd
  split
  · refine ⟨t + 1, s, a, by rw [xup_same, h1, nI_1], ?_, ?_, h4, by omega, h6, by omega, ?_⟩
    · rw [xup_ne (Or.inr (by decide)), xup_row (by decide)]; exact h2
    · rw [xup_ne (Or.inr (by decide)), xup_row (by decide)]; exact h3
    · rw [xup_ne (Or.inr (by decide)), xup_row (by decide)]; exact h8
  · refine ⟨t, s, a, ?_, ?_, ?_, h4, h5, h6, by omega, ?_⟩
    · rw [xup_ne (Or.inr (by decide))]; exact h1
    · rw [xup_ne (Or.inr (by decide))]; exact h2
    · rw [xup_ne (Or.inr (by decide))]; exact h3
    · rw [xup_ne (Or.inr (by decide))]; exact h8
theorem fFwd_o {a : Nat} {line : Int32} {m : xH} (h1 : a ≠ 60) (h2 : a ≠ 85) : fFwd line m a = m a := by
  unfold fFwd
  split
  · rw [xup_row h1, xup_row h2]
  · rw [xup_row h1]
theorem fFwd_60 {b : Nat} {line : Int32} {m : xH} (h1 : b ≠ 26) (h2 : b ≠ 29) : fFwd line m 60 b = m 60 b := by
  unfold fFwd
  split
  · rw [xup_ne (Or.inr h1), xup_row (by decide)]
  · rw [xup_ne (Or.inr h2)]
-- rules
def RR (h m : xH) : Prop := ∀ r, r < 6 → h (20 + r) 0 = m 70 r ∧ h (20 + r) 1 = m 71 r ∧ h (20 + r) 2 = m 72 r ∧ (¬ m 70 r = 0 → h (20 + r) 3 = m 73 r) ∧ h (20 + r) 4 = m 74 r
def OR (m : xH) : Prop := ∀ r, r < 6 → (m 70 r = 0 ∨ m 70 r = 1) ∧ ∃ t : Nat, t ≤ 4 ∧ m 74 r = nI t
theorem RR_fr {h h' m m' : xH} (r : RR h m) (a : ∀ k, 20 ≤ k → k < 26 → h' k = h k) (e : ∀ k, 70 ≤ k → k < 75 → m' k = m k) : RR h' m' := by
  intro q hq
  rw [a (20 + q) (by omega) (by omega), e 70 (by decide) (by decide), e 71 (by decide) (by decide), e 72 (by decide) (by decide), e 73 (by decide) (by decide), e 74 (by decide) (by decide)]
  exact r q hq
theorem OR_fr {m m' : xH} (r : OR m) (e : ∀ k, 70 ≤ k → k < 75 → m' k = m k) : OR m' := by
  intro q hq
  rw [e 70 (by decide) (by decide), e 74 (by decide) (by decide)]
  exact r q hq
theorem fits_R {s f v : Int32} {q : Nat} (hq : q < 6) {h m : xH} (r : RR h m) : cFits s f v q h ↔ fFits s f v q m := by
  obtain ⟨r1, r2, r3, r4, r5⟩ := r q hq
  unfold cFits fFits
  rw [r1, r2, r3]
  by_cases c : m 70 q = 0
  · constructor <;> intro z <;> exact absurd c z.1
  · rw [r4 c]
/-- what holds between the rules of a line on its way -/
def GI (c : Int32) (N : Nat) (st : Int32) (h m : xH) : Prop := RA c h m ∧ RW h m ∧ RR h m ∧ OR m ∧ h 0 5 = m 60 1 ∧ (∀ f, f < 4 → OF m f (if bt st f = true then N + 1 else N)) ∧ OW m (if bt st 4 = true then N + 1 else N)
theorem GI_room {c : Int32} {N : Nat} {st : Int32} {h m : xH} (hN : N ≤ 399) (g : GI c N st h m) {r : Nat} (hr : r < 6) (hb : ((st >>> (m 74 r &&& 31)) &&& 1) = 0) : fRoom r m := by
  obtain ⟨-, -, -, g4, -, g6, g7⟩ := g
  obtain ⟨-, t, ht, et⟩ := g4 r hr
  rw [et, bit_z st (by omega)] at hb
  by_cases e4 : t = 4
  · subst e4
    left
    rw [hb, if_neg (by decide)] at g7
    obtain ⟨t, s, a, h1, -, -, -, -, -, h7, -⟩ := g7
    exact ⟨et, t, by omega, h1⟩
  · right
    have hO := g6 t (by omega)
    rw [hb, if_neg (by decide)] at hO
    obtain ⟨e, s, h1, -, -, -, h5, -⟩ := hO
    exact ⟨t, by omega, et, e, by omega, h1⟩
theorem GI_step {c : Int32} {N : Nat} {s f v line len : Int32} {r : Nat} (hr : r < 6) (hN : N ≤ 399) {st : Int32} {h m : xH} (g : GI c N st h m) :
    (cStep s f v line len r (st, h)).1 = (fStep s f v line len r (st, m)).1 ∧ GI c N (fStep s f v line len r (st, m)).1 (cStep s f v line len r (st, h)).2 (fStep s f v line len r (st, m)).2 := by
  obtain ⟨g1, g2, g3, g4, g5, g6, g7⟩ := id g
  obtain ⟨-, t, ht, et⟩ := g4 r hr
  have eh : h (20 + r) 4 = nI t := by rw [(g3 r hr).2.2.2.2]; exact et
  have hc : (¬ ((st >>> (h (20 + r) 4 &&& 31)) &&& 1) = 1 ∧ cFits s f v r h) ↔ (fFits s f v r m ∧ ((st >>> (m 74 r &&& 31)) &&& 1) = 0) := by
    rw [eh, et, bit_o st (by omega), bit_z st (by omega), fits_R hr g3]
    cases bt st t <;> simp
  unfold cStep fStep
  dsimp only
  by_cases c1 : fFits s f v r m ∧ ((st >>> (m 74 r &&& 31)) &&& 1) = 0
  · rw [if_pos c1, if_pos (hc.mpr c1)]
    dsimp only
    have hb : bt st t = false := by
      have := c1.2
      rw [et, bit_z st (by omega)] at this
      exact this
    simp only [eh, et]
    refine ⟨trivial, ?_⟩
    have hO4 : ∀ f, f < 4 → OF m f 400 := fun f hf => OF_mono (g6 f hf) (by split <;> omega)
    by_cases e4 : t = 4
    · subst e4
      rw [if_pos (show nI 4 = 4 from rfl), if_pos (show nI 4 < 0 ∨ 4 ≤ nI 4 from Or.inr (nI_le (Nat.le_refl 4) (by decide)))]
      rw [hb, if_neg (by decide)] at g7
      refine ⟨⟨fun f' hf' => ?_, ?_⟩, fwd_R hN g7 g2, RR_fr g3 (fun k h1 h2 => cTake_o (by omega) (by omega)) (fun k h1 h2 => fFwd_o (by omega) (by omega)), OR_fr g4 (fun k h1 h2 => fFwd_o (by omega) (by omega)), ?_, fun f' hf' => ?_, ?_⟩
      · exact RF_fr (g1.1 f' hf') (hO4 f' hf') (cTake_o (by omega) (by omega)) (cTake_o (by omega) (by omega)) (cTake_o (by omega) (by omega)) (by rw [fFwd_o (by decide) (by decide)]) (fun j _ => by rw [fFwd_o (by decide) (by decide)]) (by rw [fFwd_o (by decide) (by decide)]) (by rw [fFwd_o (by decide) (by decide)]) (by rw [fFwd_o (by decide) (by decide)]) (by rw [fFwd_o (by decide) (by decide)]) (by rw [fFwd_o (by decide) (by decide)]) (fun j _ => by rw [fFwd_o (by decide) (by decide)]) (fun j _ => by rw [fFwd_o (by decide) (by decide)])
      · rw [fFwd_60 (by decide) (by decide), ← g1.2]
        exact xsum_fr (fun k h1 h2 => by rw [cTake_o (by omega) (by omega)])
      · rw [cTake_o (by decide) (by decide), fFwd_60 (by decide) (by decide)]; exact g5
      · rw [bit_set st (by decide) (by omega)]
        have : decide (f' = 4) = false := decide_eq_false (by omega)
        rw [this, Bool.or_false]
        exact OF_fr (g6 f' hf') (by rw [fFwd_o (by decide) (by decide)]) (fun j _ => by rw [fFwd_o (by decide) (by decide)]) (by rw [fFwd_o (by decide) (by decide)]) (by rw [fFwd_o (by decide) (by decide)]) (by rw [fFwd_o (by decide) (by decide)])
      · rw [bit_set st (by decide) (by decide), decide_eq_true rfl, Bool.or_true, if_pos rfl]
        exact fwd_O hN g7
    · have ht4 : t < 4 := by omega
      have n4 : ¬ nI t = 4 := fun q => e4 ((nI_eq (by omega) (by decide)).mp (show nI t = nI 4 from q))
      have nn : ¬ (nI t < 0 ∨ 4 ≤ nI t) := by
        intro q
        rcases q with q | q
        · exact nI_pos (by omega) q
        · exact absurd ((nI_leI (by decide) (by omega)).mp (show nI 4 ≤ nI t from q)) (by omega)
      rw [if_neg n4, if_neg nn, nI_clamp (by omega)]
      have hOt := g6 t ht4
      rw [hb, if_neg (by decide)] at hOt
      refine ⟨come_R ht4 hO4 (OF_mono hOt hN) g5 g1, RW_fr g2 (cAdd_o (by omega) (by omega) (by omega)) (cAdd_o (by omega) (by omega) (by omega)) (fCome_60 (by decide)) (fCome_60 (by decide)) (fCome_60 (by decide)) (fCome_60 (by decide)) (fCome_60 (by decide)) (fCome_o (by decide) (by decide)), RR_fr g3 (fun k h1 h2 => cAdd_o (by omega) (by omega) (by omega)) (fun k h1 h2 => fCome_o (by omega) (by omega)), OR_fr g4 (fun k h1 h2 => fCome_o (by omega) (by omega)), ?_, fun f' hf' => ?_, ?_⟩
      · rw [cAdd_o (by omega) (by omega) (by omega), fCome_60 (by decide)]; exact g5
      · rw [bit_set st (by omega) (by omega)]
        have h6 := g6 f' hf'
        by_cases e : f' = t
        · subst e
          rw [decide_eq_true rfl, Bool.or_true, if_pos rfl]
          have := come_O (f := f') (line := line) (len := len) hOt (by omega) (fun _ => hN)
          rwa [if_pos rfl] at this
        · rw [decide_eq_false e, Bool.or_false]
          have := come_O (f := t) (line := line) (len := len) h6 (by split <;> omega) (fun q => absurd q e)
          rwa [if_neg e] at this
      · rw [bit_set st (by omega) (by decide), decide_eq_false (by omega), Bool.or_false]
        exact OW_fr g7 (fCome_60 (by decide)) (fCome_60 (by decide)) (fCome_60 (by decide)) (fCome_60 (by decide))
  · rw [if_neg c1, if_neg (fun q => c1 (hc.mp q))]
    exact ⟨rfl, g⟩
theorem GI_go {c : Int32} {N : Nat} {s f v line len : Int32} (hN : N ≤ 399) {h m : xH} (g : GI c N 0 h m) : ∀ n, n ≤ 6 →
    (cGo s f v line len n (0, h)).1 = (fGo s f v line len n (0, m)).1 ∧ GI c N (fGo s f v line len n (0, m)).1 (cGo s f v line len n (0, h)).2 (fGo s f v line len n (0, m)).2 := by
  intro n
  induction n with
  | zero => intro _; exact ⟨rfl, g⟩
  | succ n ih =>
    intro hn
    obtain ⟨i1, i2⟩ := ih (by omega)
    show (cStep s f v line len n (cGo s f v line len n (0, h))).1 = (fStep s f v line len n (fGo s f v line len n (0, m))).1 ∧ _
    have e : cGo s f v line len n (0, h) = ((fGo s f v line len n (0, m)).1, (cGo s f v line len n (0, h)).2) := by rw [← i1]
    have := GI_step (s := s) (f := f) (v := v) (line := line) (len := len) (r := n) (by omega) hN i2
    rw [← e] at this
    exact this
theorem cGo_o {s f v line len st : Int32} {h : xH} {a : Nat} (h4 : a ≠ 4) (h5 : a ≠ 5) (h3 : a < 30 ∨ 54 ≤ a) : ∀ n, (cGo s f v line len n (st, h)).2 a = h a := by
  intro n
  induction n with
  | zero => rfl
  | succ n ih =>
    show (cStep s f v line len n (cGo s f v line len n (st, h))).2 a = h a
    rw [← ih]
    generalize cGo s f v line len n (st, h) = p
    unfold cStep
    split
    · dsimp only
      split
      · exact cTake_o h4 h5
      · rename_i q
        obtain ⟨j, hj, e⟩ := nI_of (fun z => q (Or.inl z))
        have hj4 : j < 4 := by
          rcases Nat.lt_or_ge j 4 with z | z
          · exact z
          · exact absurd (Or.inr (by rw [e]; exact nI_le z hj)) q
        rw [e, nI_clamp hj]
        exact cAdd_o (by omega) (by omega) (by omega)
    · rfl
theorem fGo_o {s f v line len st : Int32} {m : xH} {a : Nat} (h6 : a ≠ 60) (h5 : a ≠ 85) (h3 : a < 78 ∨ 83 < a) : ∀ n, (fGo s f v line len n (st, m)).2 a = m a := by
  intro n
  induction n with
  | zero => rfl
  | succ n ih =>
    show (fStep s f v line len n (fGo s f v line len n (st, m))).2 a = m a
    rw [← ih]
    generalize fGo s f v line len n (st, m) = p
    unfold fStep
    split
    · dsimp only
      split
      · exact fFwd_o h6 h5
      · exact fCome_o h3 h6
    · rfl
theorem fGo_60 {s f v line len st : Int32} {m : xH} {b : Nat} (h6 : b ≠ 26) (h5 : b ≠ 29) (h3 : b ≠ 30) : ∀ n, (fGo s f v line len n (st, m)).2 60 b = m 60 b := by
  intro n
  induction n with
  | zero => rfl
  | succ n ih =>
    show (fStep s f v line len n (fGo s f v line len n (st, m))).2 60 b = m 60 b
    rw [← ih]
    generalize fGo s f v line len n (st, m) = p
    unfold fStep
    split
    · dsimp only
      split
      · exact fFwd_60 h6 h5
      · exact fCome_60 h3
    · rfl
