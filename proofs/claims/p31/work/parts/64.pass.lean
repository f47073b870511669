/-! THE INVARIANT, IV: seconds that pass -/
theorem time_I {t b k f n N : Nat} {cf : Int32} {kp tk r fr d : Nat → Nat} {h : xH} (q : IB t b k f n N cf kp tk r fr d h) (ht : t + 1 ≤ 20000) : IB (t + 1) b k f n N cf kp tk r fr d (xup h 0 5 (h 0 5 + 1)) := by
  obtain ⟨⟨⟨p1, p2, p3, p4⟩, p5, p6⟩, si, li, ri, ff, wi⟩ := q
  have o : ∀ a, a ≠ 0 → xup h 0 5 (h 0 5 + 1) a = h a := fun a ha => xup_row ha
  refine ⟨⟨⟨?_, ?_, ?_, ?_⟩, ht, p6⟩, fun i hi => ?_, ?_, fun i hi => ?_, fun q hq => ?_, ?_⟩
  · rw [xup_same, p1, nI_1]
  · rw [xup_ne (Or.inr (by decide))]; exact p2
  · rw [xup_ne (Or.inr (by decide))]; exact p3
  · rw [xup_ne (Or.inr (by decide))]; exact p4
  · rw [o (10 + i) (by omega)]
    obtain ⟨a, b, c⟩ := si i hi
    exact ⟨a, b, by omega⟩
  · unfold LI at li ⊢; rw [o 6 (by decide), o 7 (by decide), o 8 (by decide)]; exact li
  · rw [o (20 + i) (by omega)]; exact ri i hi
  · have e8 : TH (xup h 0 5 (h 0 5 + 1)) q = TH h q := by unfold TH; rw [o 8 (by decide)]
    rw [e8, o (30 + q) (by omega), o (30 + q + 10) (by omega), o (30 + q + 20) (by omega), o 101 (by decide)]; exact ff q hq
  · rw [o 4 (by decide), o 5 (by decide), o 8 (by decide)]; exact wi
theorem give_I {t b k f n N : Nat} {cf : Int32} {kp tk r fr d : Nat → Nat} {h : xH} (q : IB t b k f n N cf kp tk r fr d h) : ∀ m, m ≤ 6 →
    IB t b k f n N cf kp (fun i => if i < m ∧ tk i < b then tk i + 1 else tk i) r fr d (cGive m h) ∧ (∀ a, (a < 10 ∨ 16 ≤ a) → cGive m h a = h a) := by
  intro m
  induction m with
  | zero =>
    intro _
    refine ⟨?_, fun _ _ => rfl⟩
    have e : (fun i => if i < 0 ∧ tk i < b then tk i + 1 else tk i) = tk := by
      funext i
      rw [if_neg (by omega)]
    rw [e]; exact q
  | succ m ih =>
    intro hm
    obtain ⟨g1, g2⟩ := ih (by omega)
    obtain ⟨⟨s0, s1, s2, s3, s4⟩, s5, s6⟩ := g1.2.1 m (by omega)
    dsimp only at s1 s5
    rw [if_neg (show ¬ (m < m ∧ tk m < b) by omega)] at s1 s5
    have hb50 : b ≤ 50 := by obtain ⟨⟨-, -, -, z, -⟩, -⟩ := q; exact z
    have e6 : cGive m h 0 6 = nI b := by rw [g2 0 (by decide)]; exact q.1.1.2.1
    rw [show cGive (m + 1) h = if cGive m h 0 6 ≤ cGive m h (10 + m) 1 then cGive m h else xup (cGive m h) (10 + m) 1 (cGive m h (10 + m) 1 + 1) from rfl]
    by_cases c : b ≤ tk m
    · rw [if_pos (by rw [e6, s1]; exact nI_le c (by omega))]
      refine ⟨?_, g2⟩
      have e : (fun i => if i < m + 1 ∧ tk i < b then tk i + 1 else tk i) = (fun i => if i < m ∧ tk i < b then tk i + 1 else tk i) := by
        funext i
        by_cases z : i = m
        · subst z; rw [if_neg (by omega), if_neg (by omega)]
        · by_cases y : i < m ∧ tk i < b
          · rw [if_pos y, if_pos (by omega)]
          · rw [if_neg y, if_neg (by omega)]
      rw [e]; exact g1
    · rw [if_neg (by rw [e6, s1]; exact nI_ge (by omega) (by omega))]
      refine ⟨IB_s g1 (s := m) (by omega) (fun a ha => xup_row ha) ⟨⟨?_, ?_, ?_, ?_, ?_⟩, ?_, s6⟩ (fun i hi => ⟨?_, rfl, rfl, rfl⟩), fun a ha => by rw [xup_row (by omega)]; exact g2 a ha⟩
      · rw [xup_ne (Or.inr (by decide))]; exact s0
      · rw [xup_same, s1, nI_1]
        rw [if_pos (by omega)]
      · rw [xup_ne (Or.inr (by decide))]; exact s2
      · rw [xup_ne (Or.inr (by decide))]; exact s3
      · rw [xup_ne (Or.inr (by decide))]; exact s4
      · rw [if_pos (by omega)]; omega
      · by_cases y : i < m ∧ tk i < b
        · rw [if_pos y, if_pos (by omega)]
        · rw [if_neg y, if_neg (by omega)]
theorem secG_I {t b k f n N : Nat} {cf : Int32} {kp tk r fr d : Nat → Nat} {h : xH} (q : IB t b k f n N cf kp tk r fr d h) :
    ∃ tk', IB t b k f n N cf kp tk' r fr d (cSecG h) ∧ (∀ s, s < 6 → tk s ≤ tk' s) ∧ (t % k = 0 → ∀ s, s < 6 → 0 < tk' s) ∧ (∀ a, (a < 10 ∨ 16 ≤ a) → cSecG h a = h a) := by
  obtain ⟨⟨p1, p2, p3, p4⟩, p5, p6, p7, p8, p9, -⟩ := id q.1
  have er : h 0 5 - h 0 5 / h 0 7 * h 0 7 = nI (t % k) := by rw [p1, p3]; exact pk_rem (by omega) (by omega) (by omega)
  have hk : t % k < k := Nat.mod_lt _ (by omega)
  unfold cSecG
  by_cases c : t % k = 0
  · rw [if_pos ⟨by rw [p3]; exact nI_nle (by omega) (by omega), by rw [er, c]; rfl⟩]
    obtain ⟨g1, g2⟩ := give_I q 6 (Nat.le_refl 6)
    refine ⟨_, g1, fun s hs => ?_, fun _ s hs => ?_, g2⟩
    · split <;> omega
    · split <;> omega
  · rw [if_neg (fun z => c ((nI_eq (by omega) (by decide)).mp ((er.symm.trans z.2).trans nI_0.symm)))]
    exact ⟨tk, q, fun _ _ => Nat.le_refl _, fun z => absurd z c, fun _ _ => rfl⟩
-- telling what is due
def pn (r : Nat → Nat) : Nat → Nat
  | 0 => 0
  | n + 1 => pn r n + (if 0 < r n then 1 else 0)
theorem pn_le {r : Nat → Nat} : ∀ n, pn r n ≤ n := by
  intro n
  induction n with
  | zero => exact Nat.le_refl 0
  | succ n ih => simp only [pn]; split <;> omega
theorem pn_up {r : Nat → Nat} {s : Nat} (h0 : 0 < r s) : ∀ n, pn (upN r s 0) n + (if s < n then 1 else 0) = pn r n := by
  intro n
  induction n with
  | zero => simp [pn]
  | succ n ih =>
    simp only [pn]
    by_cases e : n = s
    · subst e
      rw [upN_s, if_neg (by omega), if_pos h0]
      rw [if_neg (by omega)] at ih
      rw [if_pos (by omega)]
      omega
    · rw [upN_n e]
      by_cases hs : s < n
      · rw [if_pos hs] at ih
        rw [if_pos (show s < n + 1 by omega)]
        omega
      · rw [if_neg hs] at ih
        rw [if_neg (show ¬ s < n + 1 by omega)]
        omega
theorem pn_0 {r : Nat → Nat} : ∀ n, pn r n = 0 → ∀ s, s < n → r s = 0 := by
  intro n
  induction n with
  | zero => intro _ s hs; omega
  | succ n ih =>
    intro h s hs
    simp only [pn] at h
    by_cases e : s = n
    · subst e
      by_cases z : 0 < r s
      · rw [if_pos z] at h; omega
      · omega
    · exact ih (by omega) s (by omega)
theorem bst_none {d : Nat → Bool} {f : Nat → Int32} {n : Nat} (h : ∀ j, j < n → d j = false) : bst d f n = none := by
  rcases bst_best (d := d) (f := f) n with ⟨e, -⟩ | ⟨k, e, h1, h2, h3, -⟩
  · exact e
  · rw [h k h2] at h3; cases h3
theorem bst_no {d : Nat → Bool} {f : Nat → Int32} {n : Nat} (h : bst d f n = none) : ∀ j, j < n → d j = false := by
  rcases bst_best (d := d) (f := f) n with ⟨-, e⟩ | ⟨k, e, -⟩
  · exact fun j hj => e j (by omega) hj
  · rw [h] at e; cases e
theorem due_r {t b k f n N s : Nat} {cf : Int32} {kp tk r fr d : Nat → Nat} {h : xH} (q : IB t b k f n N cf kp tk r fr d h) (hs : s < 6) : duC h s = true → 0 < r s := by
  intro z
  obtain ⟨⟨s0, s1, s2, s3, s4⟩, -⟩ := q.2.1 s hs
  have z1 := (of_decide_eq_true z).1
  rcases Nat.eq_zero_or_pos (r s) with y | y
  · exfalso; apply z1; rw [s2, y]; decide
  · exact y
theorem due_I {t b k f n : Nat} {cf : Int32} {kp tk fr d : Nat → Nat} : ∀ (m N : Nat) (r : Nat → Nat) (h : xH), IB t b k f n N cf kp tk r fr d h → NM n N r d h → pn r 6 ≤ m →
    ∃ N' r', IB t b k f n N' cf kp tk r' fr d (cDueL m h) ∧ NM n N' r' d (cDueL m h) ∧ bC (cDueL m h) 6 = none ∧ (∀ a, a ≠ 4 → a ≠ 5 → (a < 10 ∨ 16 ≤ a) → (a < 30 ∨ 54 ≤ a) → cDueL m h a = h a) ∧ ∃ e, e ≤ 6 * m ∧ xsum (cDueL m h) = xsum h + nI e := by
  intro m
  induction m with
  | zero =>
    intro N r h q nm hp
    refine ⟨N, r, q, nm, bst_none (fun j hj => ?_), fun _ _ _ _ _ => rfl, 0, by decide, by show xsum h = _; rw [nI_0, Int32.add_zero]⟩
    cases z : duC h j with
    | false => exact z
    | true =>
      exfalso
      have h1 := due_r q hj z
      have h2 := pn_0 (r := r) 6 (by omega) j hj
      omega
  | succ m ih =>
    intro N r h q nm hp
    rw [show cDueL (m + 1) h = (match bC h 6 with | none => h | some k => cDueL m (cTell (10 + k) h)) from rfl]
    cases hb : bC h 6 with
    | none => exact ⟨N, r, q, nm, hb, fun _ _ _ _ _ => rfl, 0, by omega, by show xsum h = _; rw [nI_0, Int32.add_zero]⟩
    | some s =>
      dsimp only
      obtain ⟨hs, hd⟩ := bst_lt hb
      have h0 := due_r q hs hd
      have h1 := pn_up h0 6
      rw [if_pos hs] at h1
      obtain ⟨NA, qA, nmA, oA, eA, heA, xA⟩ := tellA_I q nm hs
      obtain ⟨N', r', g1, g2, g3, g4, e', he', x'⟩ := ih NA (upN r s 0) _ qA nmA (by omega)
      exact ⟨N', r', g1, g2, g3, fun a h4 h5 h3 h2 => (g4 a h4 h5 h3 h2).trans (oA a h4 h5 (by omega) h2), eA + e', by omega, xs_tr xA x'⟩
-- ageing
theorem rot_I {t b k f n N q : Nat} {cf : Int32} {kp tk r fr d : Nat → Nat} {h : xH} (i : IB t b k f n N cf kp tk r fr d h) (hq : q < 4) (hN : N ≤ 400) (hne : ¬ h (30 + q) 2 = h (30 + q + 20) 0) : IB t b k f n N cf kp tk r fr d (cRot (30 + q) h) := by
  obtain ⟨p, si, li, ri, ff, wi⟩ := i
  have o : ∀ a, (a < 30 ∨ 54 ≤ a) → cRot (30 + q) h a = h a := fun a ha => cRot_o (by omega) (by omega)
  refine ⟨?_, fun i hi => ?_, ?_, fun r hr => ?_, fun q' hq' => ?_, ?_⟩
  · unfold PI at p ⊢; rw [o 0 (by decide)]; exact p
  · rw [o (10 + i) (by omega)]; exact si i hi
  · unfold LI at li ⊢; rw [o 6 (by decide), o 7 (by decide), o 8 (by decide)]; exact li
  · rw [o (20 + r) (by omega)]; exact ri r hr
  · have e8 : TH (cRot (30 + q) h) q' = TH h q' := by unfold TH; rw [o 8 (by decide)]
    rw [e8, o 101 (by decide)]
    by_cases z : q' = q
    · subst z
      exact FI_rot hN hne (ff q' hq')
    · rw [cRot_o (by omega) (by omega), cRot_o (by omega) (by omega), cRot_o (by omega) (by omega)]
      exact ff q' hq'
  · rw [o 4 (by decide), o 5 (by decide), o 8 (by decide)]; exact wi
theorem age_I {t b k f n N : Nat} {cf : Int32} {kp tk r fr d : Nat → Nat} {h : xH} (i : IB t b k f n N cf kp tk r fr d h) (hN : N ≤ 400) : ∀ m, m ≤ 4 →
    IB t b k f n N cf kp tk r fr d (cAge m h) ∧ (∀ a, (a < 30 ∨ 54 ≤ a) → cAge m h a = h a) ∧ ∃ e, e ≤ m ∧ xsum (cAge m h) = xsum h + nI e := by
  intro m
  induction m with
  | zero => exact fun _ => ⟨i, fun _ _ => rfl, 0, Nat.le_refl 0, by show xsum h = _; rw [nI_0, Int32.add_zero]⟩
  | succ m ih =>
    intro hm
    obtain ⟨g1, g2, e, he, g3⟩ := ih (by omega)
    rw [show cAge (m + 1) h = if ¬ cAge m h (30 + m) 4 = 0 ∧ ¬ cAge m h (30 + m) 2 = cAge m h (30 + m + 20) 0 ∧ ¬ cAge m h 0 5 - cAge m h (30 + m) 6 < cAge m h (30 + m) 4 then cRot (30 + m) (cAge m h) else cAge m h from rfl]
    split
    · rename_i c
      refine ⟨rot_I g1 (by omega) hN c.2.1, fun a ha => ?_, e + 1, by omega, xs_tr g3 (d' := 1) (xsum_rot (by omega))⟩
      rw [cRot_o (by omega) (by omega)]; exact g2 a ha
    · exact ⟨g1, g2, e, by omega, g3⟩
theorem sec_I {t b k f n N : Nat} {cf : Int32} {kp tk r fr d : Nat → Nat} {h : xH} (q : IB t b k f n N cf kp tk r fr d h) (nm : NM n N r d h) (ht : t + 1 ≤ 20000) :
    ∃ N' tk' r', IB (t + 1) b k f n N' cf kp tk' r' fr d (cSec h) ∧ NM n N' r' d (cSec h) ∧ (∀ s, s < 6 → tk s ≤ tk' s) ∧ ((t + 1) % k = 0 → ∀ s, s < 6 → 0 < tk' s) ∧ (∀ s, s < 6 → r' s = 0 ∨ t + 1 < f + fr s) ∧ (∀ a, 54 ≤ a → cSec h a = h a) ∧ ∃ e, e ≤ 40 ∧ xsum (cSec h) = xsum h + nI e := by
  have hn : n ≤ 60 := by obtain ⟨⟨-, -, -, -, -, -, -, z⟩, -⟩ := q; exact z
  obtain ⟨m1, m2, m3⟩ := nm
  unfold cSec
  have q1 := time_I q ht
  have o1 : ∀ a, a ≠ 0 → xup h 0 5 (h 0 5 + 1) a = h a := fun a ha => xup_row ha
  generalize xup h 0 5 (h 0 5 + 1) = h1 at q1 o1 ⊢
  obtain ⟨tk', q2, t1, t2, o2⟩ := secG_I q1
  generalize cSecG h1 = h2 at q2 o2 ⊢
  have e7 : h2 7 = h 7 := by rw [o2 7 (by decide), o1 7 (by decide)]
  have nm2 : NM n N r d h2 := ⟨by rw [e7]; exact m1, by rw [e7]; exact m2, m3⟩
  obtain ⟨N', r', q3, nm3, b3, o3, e3, he3, x3⟩ := due_I 6 N r h2 q2 nm2 (pn_le 6)
  generalize cDueL 6 h2 = h3 at q3 nm3 b3 o3 x3 ⊢
  obtain ⟨bN, -, -⟩ := NM_N nm3 hn
  obtain ⟨q4, o4, e4, he4, x4⟩ := age_I q3 (by omega) 4 (Nat.le_refl 4)
  have x0 : xsum h2 = xsum h := xsum_fr (fun k h1 h2 => by rw [o2 k (by omega), o1 k (by omega)])
  rw [x0] at x3
  obtain ⟨n1, n2, n3⟩ := nm3
  refine ⟨N', tk', r', q4, ⟨by rw [o4 7 (by decide)]; exact n1, by rw [o4 7 (by decide)]; exact n2, n3⟩, t1, t2, fun s hs => ?_, fun a ha => ?_, e3 + e4, by omega, xs_tr x3 x4⟩
  · have hd := bst_no b3 s hs
    obtain ⟨⟨s0, s1, s2, s3, s4⟩, s5, s6⟩ := q3.2.1 s hs
    obtain ⟨⟨p1, p2, p3, p4⟩, p5, p6, p7, p8, p9, p10, -⟩ := q3.1
    rcases Nat.eq_zero_or_pos (r' s) with y | y
    · exact Or.inl y
    · right
      have hr := sm_1 (r := r') hs
      have h1 := cn_le (p := 0) (R := h3 7) n
      have c := of_decide_eq_false hd
      rcases Nat.lt_or_ge (t + 1) (f + fr s) with w | w
      · exact w
      · exfalso
        apply c
        rw [s2, p1, s3, p4, pk_sub s6]
        exact ⟨nI_nle y (by omega), nI_nlt (by omega) (by omega)⟩
  · rw [o4 a (by omega), o3 a (by omega) (by omega) (by omega) (by omega), o2 a (by omega), o1 a (by omega)]
theorem secs_I {b k f n : Nat} {cf : Int32} {kp fr d : Nat → Nat} : ∀ (m t N : Nat) (tk r : Nat → Nat) (h : xH), IB t b k f n N cf kp tk r fr d h → NM n N r d h → t + m ≤ 20000 →
    ∃ N' tk' r', IB (t + m) b k f n N' cf kp tk' r' fr d (cSecs m h) ∧ NM n N' r' d (cSecs m h) ∧ (∀ s, s < 6 → tk s ≤ tk' s) ∧ (∀ j, 1 ≤ j → j ≤ m → (t + j) % k = 0 → ∀ s, s < 6 → 0 < tk' s) ∧ (1 ≤ m → ∀ s, s < 6 → r' s = 0 ∨ t + m < f + fr s) ∧ (∀ a, 54 ≤ a → cSecs m h a = h a) ∧ ∃ e, e ≤ 40 * m ∧ xsum (cSecs m h) = xsum h + nI e := by
  intro m
  induction m with
  | zero =>
    intro t N tk r h q nm ht
    exact ⟨N, tk, r, q, nm, fun _ _ => Nat.le_refl _, fun j h1 h2 => by omega, fun z => by omega, fun _ _ => rfl, 0, by decide, by show xsum h = _; rw [nI_0, Int32.add_zero]⟩
  | succ m ih =>
    intro t N tk r h q nm ht
    obtain ⟨N1, tk1, r1, q1, nm1, a1, a2, a3, o1, e1, he1, x1⟩ := sec_I q nm (by omega)
    obtain ⟨N2, tk2, r2, q2, nm2, b1, b2, b3, o2, e2, he2, x2⟩ := ih (t + 1) N1 tk1 r1 _ q1 nm1 (by omega)
    rw [show cSecs (m + 1) h = cSecs m (cSec h) from rfl]
    rw [show t + 1 + m = t + (m + 1) by omega] at q2 b3
    refine ⟨N2, tk2, r2, q2, nm2, fun s hs => Nat.le_trans (a1 s hs) (b1 s hs), fun j h1 h2 h3 s hs => ?_, fun _ s hs => ?_, fun a ha => (o2 a ha).trans (o1 a ha), e1 + e2, by omega, xs_tr x1 x2⟩
    · by_cases z : j = 1
      · subst z
        have := a2 h3 s hs
        have := b1 s hs
        omega
      · exact b2 (j - 1) (by omega) (by omega) (by rw [show t + 1 + (j - 1) = t + j by omega]; exact h3) s hs
    · rcases Nat.eq_zero_or_pos m with z | z
      · subst z
        obtain ⟨⟨u0, u1, u2, u3, u4⟩, -⟩ := q2.2.1 s hs
        obtain ⟨⟨v0, v1, v2, v3, v4⟩, -⟩ := q1.2.1 s hs
        have e : r2 s = r1 s := by
          have hn : n ≤ 60 := by obtain ⟨⟨-, -, -, -, -, -, -, z⟩, -⟩ := q; exact z
          have h1 := NM_N nm1 hn
          have h2 := NM_N nm2 hn
          have h3 := sm_1 (r := r1) hs
          have h4 := sm_1 (r := r2) hs
          have hz : cSecs 0 (cSec h) = cSec h := rfl
          rw [hz] at u2
          exact (nI_eq (by omega) (by omega)).mp (u2.symm.trans v2)
        rw [e]
        exact a3 s hs
      · exact b3 z s hs
