/-! THE CALLS, one by one, where nothing throws; seconds and the forwarder in the law -/
theorem cl0 : (0 : Int32).toNatClampNeg = 0 := by decide
theorem cl1 : (1 : Int32).toNatClampNeg = 1 := by decide
theorem cl2 : (2 : Int32).toNatClampNeg = 2 := by decide
theorem cl3 : (3 : Int32).toNatClampNeg = 3 := by decide
theorem cl4 : (4 : Int32).toNatClampNeg = 4 := by decide
theorem cl5 : (5 : Int32).toNatClampNeg = 5 := by decide
theorem C_sen {s : Nat} {p : Int32} (hp : p = nI s) (hs : s < 6) {h : xH} {K : Nat → xH → Prop} (hK : K (10 + s) h) : w_X5_senderAt p h K := by
  subst hp
  exact BF (nI_pos (by omega)) (BT (nI_lt hs (by decide)) ⟨vp_in_nI hs (by decide), by rw [nI_clamp (by omega)]; exact hK⟩)
theorem C_rul {s : Nat} {p : Int32} (hp : p = nI s) (hs : s < 6) {h : xH} {K : Nat → xH → Prop} (hK : K (20 + s) h) : w_X5_ruleAt p h K := by
  subst hp
  exact BF (nI_pos (by omega)) (BT (nI_lt hs (by decide)) ⟨vp_in_nI hs (by decide), by rw [nI_clamp (by omega)]; exact hK⟩)
theorem C_fil {s : Nat} {p : Int32} (hp : p = nI s) (hs : s < 4) {h : xH} {K : Nat → xH → Prop} (hK : K (30 + s) h) : w_X5_fileAt p h K := by
  subst hp
  exact BF (nI_pos (by omega)) (BT (nI_lt hs (by decide)) ⟨vp_in_nI hs (by decide), by rw [nI_clamp (by omega)]; exact hK⟩)
theorem C_tok {s : Nat} {p : Int32} (hp : p = nI s) (hs : s < 6) {h : xH} {K : Int32 → xH → Prop} (hK : K (h (10 + s) 1) h) : w_X5_tokens p h K := C_sen hp hs ⟨⟨by omega, by omega⟩, hK⟩
theorem C_rep {s : Nat} {p : Int32} (hp : p = nI s) (hs : s < 6) {h : xH} {K : Int32 → xH → Prop} (hK : K (h (10 + s) 2) h) : w_X5_repeats p h K := C_sen hp hs ⟨⟨by omega, by omega⟩, hK⟩
theorem C_dro {s : Nat} {p : Int32} (hp : p = nI s) (hs : s < 6) {h : xH} {K : Int32 → xH → Prop} (hK : K (h (10 + s) 4) h) : w_X5_drops p h K := C_sen hp hs ⟨⟨by omega, by omega⟩, hK⟩
theorem C_siz {s : Nat} {p : Int32} (hp : p = nI s) (hs : s < 4) {h : xH} {K : Int32 → xH → Prop} (hK : K (h (30 + s) 7) h) : w_X5_size p h K := C_fil hp hs ⟨⟨by omega, by omega⟩, hK⟩
theorem C_gen {s : Nat} {p : Int32} (hp : p = nI s) (hs : s < 4) {h : xH} {K : Int32 → xH → Prop} (hK : K (h (30 + s) 8) h) : w_X5_generations p h K := C_fil hp hs ⟨⟨by omega, by omega⟩, hK⟩
theorem pq_ge (j : Nat) (hj : j < 2 ^ 31) : ¬ pq j < -1 := by
  cases j with
  | zero => decide
  | succ j =>
    intro z
    rw [Int32.lt_iff_toInt_lt] at z
    have h1 : (pq (j + 1)).toInt = (j : Int) := nI_toInt (by omega)
    have h2 : (-1 : Int32).toInt = -1 := by decide
    omega
theorem pq_lt {j og : Nat} (hj : j ≤ og) (ho : og < 2 ^ 31) : ¬ nI og ≤ pq j := by
  cases j with
  | zero =>
    intro z
    rw [Int32.le_iff_toInt_le] at z
    have h1 := nI_toInt (n := og) ho
    have h2 : (pq 0).toInt = -1 := by decide
    omega
  | succ j => exact nI_ge (by omega) ho
theorem C_lns {q j og : Nat} {p g : Int32} (hp : p = nI q) (hg : g = pq j) (hq : q < 4) (hj : j ≤ og) (ho : og ≤ 5) {h : xH} (e8 : h (30 + q) 8 = nI og) {K : Int32 → xH → Prop} (hK : K (endC (30 + q) j h - h (30 + q + 20) j) h) : w_X5_lines p g h K := by
  subst hg
  refine C_fil hp hq ⟨⟨by omega, by omega⟩, BF (pq_ge j (by omega)) (BF (by rw [e8]; exact pq_lt hj (by omega)) (T1 (C_linesOf (by omega) hK)))⟩
theorem C_lin {q j og i s m : Nat} {p g x : Int32} (hp : p = nI q) (hg : g = pq j) (hx : x = nI i) (hq : q < 4) (hj : j ≤ og) (ho : og ≤ 5) {h : xH} (e8 : h (30 + q) 8 = nI og) (em : endC (30 + q) j h - h (30 + q + 20) j = nI m) (hi : i < m) (hm : m ≤ 400) (es : h (30 + q + 20) j = nI s) (h4 : s + i < 400) {K : Int32 → xH → Prop} (hK : K (h (30 + q + 10) (s + i)) h) : w_X5_line p g x h K := by
  subst hg
  subst hx
  refine C_fil hp hq ⟨⟨by omega, by omega⟩, BF (pq_ge j (by omega)) (BF (by rw [e8]; exact pq_lt hj (by omega)) (T1 (C_linesOf (by omega) ?_)))⟩
  have e1 : nI m - 1 = nI (m - 1) := by
    have := nI_pred (m - 1)
    rwa [show m - 1 + 1 = m by omega] at this
  rw [em, e1]
  refine C_isWithin (fun _ _ => T1 ?_) (fun z => absurd z (fun y => by
    rcases y with y | y
    · exact nI_pos (by omega) y
    · exact nI_nlt (by omega) (by omega) y))
  refine C_startOf (by omega) ?_
  rw [es]
  intro x3 hx3
  rw [nI_add] at hx3
  subst hx3
  exact BF (nI_pos (by omega)) (BF (nI_ge (show s + i < 400 by omega) (by decide)) ⟨vp_in_nI h4 (by decide), by rw [nI_clamp (by omega)]; exact hK⟩)
theorem C_hs {j n : Nat} {h : xH} (hn : h 6 2 = nI n) (h4 : n ≤ 400) (hj : j < n) {K : Int32 → xH → Prop} (hK : K 1 h) : w_X1_has (nI j) h K :=
  BF (nI_pos (by omega)) (BF (by rw [hn]; exact nI_ge hj (by omega)) hK)
theorem C_fat {j n : Nat} {p : Int32} (hp : p = nI j) {h : xH} (hn : h 6 2 = nI n) (h4 : n ≤ 400) (hj : j < n) {K : Int32 → xH → Prop} (hK : K (h 7 j) h) : w_X5_fateOf p h K := by
  subst hp
  exact C_hs hn h4 hj (T1 (BF (nI_pos (by omega)) (BF (nI_ge (show j < 400 by omega) (by decide)) ⟨vp_in_nI (by omega) (by decide), by rw [nI_clamp (by omega)]; exact hK⟩)))
theorem C_trg {j n : Nat} {p : Int32} (hp : p = nI j) {h : xH} (hn : h 6 2 = nI n) (h4 : n ≤ 400) (hj : j < n) {K : Int32 → xH → Prop} (hK : K (h 8 j) h) : w_X5_targetsOf p h K := by
  subst hp
  exact C_hs hn h4 hj (T1 (BF (nI_pos (by omega)) (BF (nI_ge (show j < 400 by omega) (by decide)) ⟨vp_in_nI (by omega) (by decide), by rw [nI_clamp (by omega)]; exact hK⟩)))
theorem led_cn {p : Int32} {r : Nat → Int32} : ∀ n, ledN p r n = nI (cn p r n) := by
  intro n
  induction n with
  | zero => rfl
  | succ n ih =>
    simp only [ledN, cn]
    split
    · rw [ih, nI_1]
    · rw [ih, Nat.add_zero]
theorem C_cnt {j n : Nat} {p : Int32} (hp : p = nI j) (hj : j < 4) {h : xH} (hn : h 6 2 = nI n) (h4 : n ≤ 400) {K : Int32 → xH → Prop} (hK : K (nI (cn (nI j) (h 7) n)) h) : w_X5_count p h K := by
  subst hp
  refine C_isWithin (fun _ _ => T1 (C_entriesWith hn h4 (by rw [led_cn]; exact hK))) (fun z => absurd z (fun y => by
    rcases y with y | y
    · exact nI_pos (by omega) y
    · exact nI_nlt (b := j) (a := 3) (by omega) (by omega) y))
/-- the law's own numbers -/
def CV (t b k f n : Nat) (cf : Int32) (kp : Nat → Nat) (h : xH) : Prop := (h 102 0 = nI n ∧ h 102 1 = nI t ∧ h 102 2 = nI b ∧ h 102 3 = nI k ∧ h 102 4 = nI f ∧ h 102 5 = cf) ∧ ∀ q, q < 4 → h 102 (6 + q) = nI (kp q)
/-- all that holds between two steps -/
def IV (T : Nat) (h : xH) : Prop := ∃ (t b k f n N : Nat) (cf : Int32) (kp tk r fr d : Nat → Nat), t ≤ T ∧ IB t b k f n N cf kp tk r fr d h ∧ NM n N r d h ∧ CV t b k f n cf kp h
theorem IV_up {T T' : Nat} {h : xH} (q : IV T h) (hT : T ≤ T') : IV T' h := by
  obtain ⟨t, b, k, f, n, N, cf, kp, tk, r, fr, d, z, y⟩ := q
  exact ⟨t, b, k, f, n, N, cf, kp, tk, r, fr, d, by omega, y⟩
theorem nb1 : narrow .boolean (.int (1 : Int32)) = .int 1 := nb01 (Or.inr rfl)
theorem x32_sub {a b : Int32} : a + b - a = b := by grind
theorem tick_ex {t k : Nat} (hk : 1 ≤ k) : ∃ j, 1 ≤ j ∧ j ≤ k ∧ (t + j) % k = 0 := by
  have h1 : t % k < k := Nat.mod_lt _ (by omega)
  refine ⟨k - t % k, by omega, by omega, ?_⟩
  have h2 := Nat.div_add_mod t k
  have h3 : t + (k - t % k) = k * (t / k + 1) := by
    rw [Nat.mul_add, Nat.mul_one]
    omega
  rw [h3]
  exact Nat.mul_mod_right _ _
theorem L_passes {T m : Nat} {p : Int32} {h : xH} {K : Int32 → xH → Prop} (hp : p = nI m) (h1 : 1 ≤ m) (h2 : m ≤ 100) (q : IV T h) (hT : T + 100 ≤ 20000) (hK : ∀ h', IV (T + 100) h' → K 1 h') : w_L_passes p h K := by
  subst hp
  obtain ⟨t, b, k, f, n, N, cf, kp, tk, r, fr, d, ht, ib, nm, ⟨⟨c0, c1, c2, c3, c4, c5⟩, c6⟩⟩ := q
  refine ⟨vp_in_nI (n := 1) (by decide) (by decide), vp_in_nI (n := 1) (by decide) (by decide), ?_⟩
  intro h3 e3
  rw [cl1, c1, nI_add] at e3
  have o3 : ∀ a, a ≠ 102 → h3 a = h a := fun a ha => by rw [e3]; exact xup_row ha
  have ib3 : IB t b k f n N cf kp tk r fr d h3 := IB_fr ib (fun a ha => o3 a (by omega)) (fun w _ => by rw [o3 101 (by decide)])
  have nm3 : NM n N r d h3 := by unfold NM at nm ⊢; rw [o3 7 (by decide)]; exact nm
  have d3 : h3 102 1 = nI (t + m) := by rw [e3, xup_same]
  have dn : ∀ j, j ≠ 1 → h3 102 j = h 102 j := fun j hj => by rw [e3, xup_ne (Or.inr hj)]
  clear e3
  obtain ⟨N', tk', r', ib', nm', a1, a2, a3, o', e, he, x'⟩ := secs_I m t N tk r h3 ib3 nm3 (by omega)
  refine C_pass h1 h2 ?_
  rw [x', x32_sub]
  generalize cSecs m h3 = h5 at ib' nm' o' ⊢
  have d5 : ∀ j, h5 102 j = h3 102 j := fun j => by rw [o' 102 (by decide)]
  refine BF (nI_pos (by omega)) ⟨vp_in_nI (n := 1) (by decide) (by decide), BT (by rw [cl1, d5, d3]; exact ib'.1.1.1) ?_⟩
  have fin : K 1 h5 := hK h5 ⟨t + m, b, k, f, n, N', cf, kp, tk', r', fr, d, by omega, ib', nm', ⟨by rw [d5, dn 0 (by decide)]; exact c0, by rw [d5]; exact d3, by rw [d5, dn 2 (by decide)]; exact c2, by rw [d5, dn 3 (by decide)]; exact c3, by rw [d5, dn 4 (by decide)]; exact c4, by rw [d5, dn 5 (by decide)]; exact c5⟩, fun q hq => by rw [d5, dn (6 + q) (by omega)]; exact c6 q hq⟩
  have e4 : h5 102 (4 : Int32).toNatClampNeg = nI f := by rw [cl4, d5, dn 4 (by decide)]; exact c4
  have e3 : h5 102 (3 : Int32).toNatClampNeg = nI k := by rw [cl3, d5, dn 3 (by decide)]; exact c3
  obtain ⟨-, -, -, -, hk1, hk2, hf, hn⟩ := ib'.1
  have loop : ∀ dd i, i + dd = 6 → w_L_passes_34 (nI m) K (dd + 1) 1 (nI i) h5 := by
    intro dd
    induction dd with
    | zero =>
      intro i hi
      have h6 : i = 6 := by omega
      subst h6
      rw [w_L_passes_34_s]
      exact BT (nI_le (Nat.le_refl 6) (by decide)) ⟨nb1, fin⟩
    | succ dd ih =>
      intro i hi
      rw [w_L_passes_34_s]
      refine BF (nI_ge (show i < 6 by omega) (by decide)) (BF (by decide) ⟨vp_in_nI (n := 4) (by decide) (by decide), ?_⟩)
      have p77 : w_L_passes_77 (nI m) K (w_L_passes_34 (nI m) K (dd + 1)) (nI i) h5 := by
        rintro x rfl
        rw [nI_1]
        exact ih (i + 1) (by omega)
      obtain ⟨⟨s0, s1, s2, s3, s4⟩, s5, s6⟩ := ib'.2.1 i (by omega)
      have hi6 : i < 6 := by omega
      have p61 : w_L_passes_61 (nI m) K (w_L_passes_34 (nI m) K (dd + 1)) (nI i) h5 := by
        refine ⟨vp_in_nI (n := 3) (by decide) (by decide), ?_⟩
        rw [e3]
        by_cases c : m < k
        · exact BT (nI_lt c (by omega)) p77
        · refine BF (nI_nlt (by omega) (by omega)) (C_tok rfl hi6 (BF ?_ p77))
          obtain ⟨j, j1, j2, j3⟩ := tick_ex (t := t) hk1
          have := a2 j j1 (by omega) j3 i hi6
          rw [s1]
          exact nI_nle this (by have := ib'.1.2.2.2.1; omega)
      rw [e4]
      by_cases c : m < f
      · exact BT (nI_lt c (by omega)) p61
      · refine BF (nI_nlt (by omega) (by omega)) (C_rep rfl hi6 (BT ?_ p61))
        have hr : r' i = 0 := by
          rcases a3 h1 i hi6 with z | z
          · exact z
          · have := (ib.2.1 i hi6).2.2
            omega
        rw [s2, hr]; rfl
  exact ⟨7, loop 6 0 rfl⟩
