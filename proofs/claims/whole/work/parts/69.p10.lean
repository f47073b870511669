/-! PURE PART 10: lines, line -/
def pq : Nat → Int32
  | 0 => -1
  | n + 1 => nI n
theorem pq_1 (q : Nat) : pq q + 1 = nI q := by
  cases q with
  | zero => decide +kernel
  | succ n => exact nI_1 n
theorem pq_m (q : Nat) : nI q - 1 = pq q := by
  cases q with
  | zero => decide +kernel
  | succ n => exact nI_pred n
theorem C_startOf {k q : Nat} {h : xH} {K : Int32 → xH → Prop} (hq : q < 6) (hK : K (h (k + 20) q) h) : w_X2_startOf k (pq q) h K := by
  rintro x rfl
  rw [pq_1, nI_clamp (by omega)]
  exact ⟨fun c => absurd c (nI_pos (by omega)), fun _ => ⟨fun c => absurd c (nI_ge hq (by decide)), fun _ => ⟨vp_in_nI hq (by decide), hK⟩⟩⟩
def endC (k q : Nat) (h : xH) : Int32 := match q with | 0 => h k 2 | q + 1 => h (k + 20) q
def endM (f q : Nat) (m : xH) : Int32 := match q with | 0 => m 79 f | q + 1 => m 81 (7 * f + q)
theorem C_linesOf {k q : Nat} {h : xH} {K : Int32 → xH → Prop} (hq : q < 6) (hK : K (endC k q h - h (k + 20) q) h) : w_X2_linesOf k (pq q) h K := by
  cases q with
  | zero => exact ⟨fun _ => C_startOf (q := 0) hq hK, fun c => absurd rfl c⟩
  | succ q =>
    refine ⟨fun c => absurd c (nI_m1 (by omega)), fun _ => ?_⟩
    rw [show pq (q + 1) - 1 = pq q from pq_m q]
    exact C_startOf (by omega) (C_startOf (q := q + 1) hq hK)
theorem M_startOf {f q : Nat} {m : xH} {K : Int32 → xH → Prop} (hf : f < 4) (hq : q < 6) (hK : K (m 81 (7 * f + q)) m) : w_X6_startOf (nI f) (pq q) m K := by
  have e : (7 : Int32) * nI f + pq q + 1 = nI (7 * f + q) := by
    rw [show (7 : Int32) * nI f = nI (7 * f) from pk_mul 7 f, Int32.add_assoc, pq_1, nI_add]
  unfold w_X6_startOf
  rw [e, nI_clamp (by omega)]
  exact ⟨vp_in_nI (by omega) (by decide), hK⟩
theorem M_endOf {f q : Nat} {m : xH} {K : Int32 → xH → Prop} (hf : f < 4) (hq : q < 6) (hK : K (endM f q m) m) : w_X6_endOf (nI f) (pq q) m K := by
  cases q with
  | zero =>
    refine ⟨fun _ => ?_, fun c => absurd rfl c⟩
    rw [nI_clamp (by omega)]
    exact ⟨vp_in_nI hf (by decide), hK⟩
  | succ q =>
    refine ⟨fun c => absurd c (nI_m1 (by omega)), fun _ => ?_⟩
    have e : (7 : Int32) * nI f + pq (q + 1) = nI (7 * f + q) := by
      rw [show (7 : Int32) * nI f = nI (7 * f) from pk_mul 7 f]; exact nI_add _ _
    rw [e, nI_clamp (by omega)]
    exact ⟨vp_in_nI (by omega) (by decide), hK⟩
theorem M_part1 {f : Nat} {p1 : Int32} {m : xH} {K : Int32 → xH → Prop} (hf : f < 4) (a : ¬ p1 < -1) (b : ¬ m 80 f ≤ p1) (hK : K 1 m) : w_X6_isPart (nI f) p1 m K := by
  refine M_isFile (fun j hj e => T1 ⟨fun c => absurd c a, fun _ => ?_⟩) (fun hn => absurd rfl (hn f hf))
  rw [nI_clamp (by omega)]
  exact ⟨vp_in_nI hf (by decide), fun c => absurd c b, fun _ => hK⟩
theorem M_part0 {f : Nat} {p1 : Int32} {m : xH} {K : Int32 → xH → Prop} (hf : f < 4) (a : p1 < -1 ∨ m 80 f ≤ p1) (hK : K 0 m) : w_X6_isPart (nI f) p1 m K := by
  refine M_isFile (fun j hj e => T1 ⟨fun c => hK, fun c => ?_⟩) (fun hn => absurd rfl (hn f hf))
  rw [nI_clamp (by omega)]
  exact ⟨vp_in_nI hf (by decide), fun _ => hK, fun d => absurd a (fun z => by rcases z with z | z; exact c z; exact d z)⟩
theorem M_partF {p0 p1 : Int32} {m : xH} {K : Int32 → xH → Prop} (hn : ∀ j, j < 4 → ¬ p0 = nI j) (hK : K 0 m) : w_X6_isPart p0 p1 m K :=
  M_isFile (fun j hj e => absurd e (hn j hj)) (fun _ => T0 hK)
theorem gen_q {p1 : Int32} {g : Nat} (hg : g ≤ 5) (a : ¬ p1 < -1) (b : ¬ nI g ≤ p1) : ∃ q, q < 6 ∧ p1 = pq q := by
  by_cases c : p1 < 0
  · refine ⟨0, by decide, ?_⟩
    show p1 = -1
    rw [Int32.lt_iff_toInt_lt] at a c
    apply Int32.toInt_inj.mp
    have e0 : (0 : Int32).toInt = 0 := by decide
    have e1 : (-1 : Int32).toInt = -1 := by decide
    omega
  · obtain ⟨i, hi, rfl⟩ := nI_of c
    refine ⟨i + 1, ?_, rfl⟩
    rcases Nat.lt_or_ge i 5 with z | z
    · omega
    · exact absurd (nI_le (by omega) hi) b
theorem parts_R {h m : xH} {f q : Nat} (hf : f < 4) (hq : q < 6) (rf : RF h m f) (oo : OF m f 400) : endC (30 + f) q h = endM f q m ∧ h (30 + f + 20) q = m 81 (7 * f + q) ∧ ∃ e s t : Nat, m 79 f = nI e ∧ endM f q m = nI t ∧ m 81 (7 * f + q) = nI s ∧ s ≤ t ∧ t ≤ e ∧ e ≤ 400 := by
  obtain ⟨e, s, h1, h2, h3, h4, h5, -, -⟩ := oo
  obtain ⟨r1, r2, r3, r4, r5, r6, r7, r8, r9⟩ := rf
  have hs : ∀ j, j ≤ 6 → s j ≤ e := by
    intro j
    induction j with
    | zero => intro _; exact h3
    | succ j ih => intro hj; exact Nat.le_trans (h4 j (by omega)) (ih (by omega))
  cases q with
  | zero => exact ⟨r1, r7 0 hq, e, s 0, e, h1, h1, h2 0 (by decide), h3, Nat.le_refl e, h5⟩
  | succ q => exact ⟨r7 q (by omega), r7 (q + 1) hq, e, s (q + 1), s q, h1, h2 q (by omega), h2 (q + 1) (by omega), h4 q (by omega), hs q (by omega), h5⟩
theorem RF_er {h m m' : xH} {f : Nat} (e : ∀ a, 60 ≤ a → a < 100 → m' a = m a) (r : RF h m f) : RF h m' f := by
  unfold RF
  rw [e 75 (by decide) (by decide), e 76 (by decide) (by decide), e 77 (by decide) (by decide), e 78 (by decide) (by decide), e 79 (by decide) (by decide), e 80 (by decide) (by decide), e 81 (by decide) (by decide), e 82 (by decide) (by decide), e 83 (by decide) (by decide)]
  exact r
theorem op_lines {h : xH} (g : LG h) {p0 p1 : Int32} {J : Int32 → Int32 → xH → Prop} (hJ : Ends3 J) : w_L_lines p0 p1 h (fun k h1 => w_X6_lines p0 p1 h1 (fun b h2 => J k b h2)) := by
  unfold w_L_lines w_X5_lines w_X6_lines
  refine C_fileAt (fun j hj e => ⟨⟨by omega, by omega⟩, ?_⟩) (fun hn => ⟨rfl, M_partF hn (T0 (M_h1 (T0 (fin_x hJ g (by decide)))))⟩)
  subst e
  obtain ⟨rf, oo⟩ := LG_RF g hj
  have e8 : h (30 + j) 8 = h 80 j := rf.2.2.2.2.2.1
  have bad : (p1 < -1 ∨ h (30 + j) 8 ≤ p1) → w_X6_isPart (nI j) p1 h (fun r1 h2 => ((r1 = 0 → w_X6_lines_15 (nI j) p1 (fun b h2 => J 1 b h2) 60 1 h2) ∧ (¬ (r1 = 0) → w_X6_lines_15 (nI j) p1 (fun b h2 => J 1 b h2) 60 0 h2))) := by
    intro z
    rw [e8] at z
    exact M_part0 hj z (T0 (M_h1 (T0 (fin_x hJ g (by decide)))))
  refine ⟨fun c => T0 ⟨rfl, bad (Or.inl c)⟩, fun a => ⟨fun c => T0 ⟨rfl, bad (Or.inr c)⟩, fun b => T1 ?_⟩⟩
  obtain ⟨gg, kk, h80, -, hg5, -⟩ : ∃ g k : Nat, h 80 j = nI g ∧ h 77 j = nI k ∧ g ≤ 5 ∧ k ≤ 5 := by
    obtain ⟨e, s, h1, h2, h3, h4, h5, h6, -⟩ := oo; exact h6
  obtain ⟨q, hq, rfl⟩ := gen_q (p1 := p1) hg5 a (by rw [← h80, ← e8]; exact b)
  refine C_linesOf hq ?_
  rintro h3 rfl
  refine M_part1 hj a (by rw [xup_row (by decide), ← e8]; exact b) (T1 (M_h0 (T1 (M_endOf hj hq (M_startOf hj hq (fin_r hJ g ?_))))))
  obtain ⟨x1, x2, -⟩ := parts_R hj hq rf oo
  rw [x1, x2]
  cases q with
  | zero => exact sub2 (by unfold endM; rw [xup_row (by decide), xup_row (by decide)]) (by rw [xup_row (by decide), xup_row (by decide)])
  | succ q => exact sub2 (by unfold endM; dsimp only; rw [xup_row (by decide), xup_row (by decide)]) (by rw [xup_row (by decide), xup_row (by decide)])
theorem endM_er {m m' : xH} {f q : Nat} (e79 : m' 79 = m 79) (e81 : m' 81 = m 81) : endM f q m' = endM f q m := by
  cases q with
  | zero => exact congrFun e79 f
  | succ q => exact congrFun e81 _
theorem op_line {h : xH} (g : LG h) {p0 p1 p2 : Int32} {J : Int32 → Int32 → xH → Prop} (hJ : Ends3 J) : w_L_line p0 p1 p2 h (fun k h1 => w_X6_line p0 p1 p2 h1 (fun b h2 => J k b h2)) := by
  unfold w_L_line w_X5_line w_X6_line
  have x39 : w_X6_line_39 p0 p1 p2 (fun b h2 => J 1 b h2) 60 h := by
    unfold w_X6_line_39 w_X6_line_40
    exact M_h1 (T0 (fin_x hJ g (by decide)))
  refine C_fileAt (fun j hj e => ⟨⟨by omega, by omega⟩, ?_⟩) (fun hn => ⟨rfl, M_partF hn (T0 x39)⟩)
  subst e
  obtain ⟨rf, oo⟩ := LG_RF g hj
  have e8 : h (30 + j) 8 = h 80 j := rf.2.2.2.2.2.1
  refine ⟨fun c => T0 ⟨rfl, M_part0 hj (Or.inl c) (T0 x39)⟩, fun a => ⟨fun c => T0 ⟨rfl, M_part0 hj (Or.inr (by rw [← e8]; exact c)) (T0 x39)⟩, fun b => T1 ?_⟩⟩
  obtain ⟨gg, kk, h80, -, hg5, -⟩ : ∃ g k : Nat, h 80 j = nI g ∧ h 77 j = nI k ∧ g ≤ 5 ∧ k ≤ 5 := by
    obtain ⟨e, s, h1, h2, h3, h4, h5, h6, -⟩ := oo; exact h6
  obtain ⟨q, hq, rfl⟩ := gen_q (p1 := p1) hg5 a (by rw [← h80, ← e8]; exact b)
  refine C_linesOf hq ?_
  obtain ⟨x1, x2, e, s, t, z1, z2, z3, z4, z5, z6⟩ := parts_R hj hq rf oo
  have eL : endC (30 + j) q h - h (30 + j + 20) q = nI (t - s) := by rw [x1, x2, z2, z3, pk_sub z4]
  have eM : endM j q h - h 81 (7 * j + q) = nI (t - s) := by rw [z2, z3, pk_sub z4]
  rw [eL]
  have bad : (p2 < 0 ∨ nI (t - s) ≤ p2) → w_X6_line (nI j) (pq q) p2 h (fun b h2 => J 1 b h2) := by
    intro z
    refine M_part1 hj a (by rw [← e8]; exact b) (T1 ⟨fun _ => x39, fun c => M_endOf hj hq (M_startOf hj hq ⟨fun _ => x39, fun d => absurd z ?_⟩)⟩)
    rw [eM] at d
    exact fun z => by rcases z with z | z; exact c z; exact d z
  have hw : ∀ L : Nat, L < 2 ^ 31 → ¬ p2 < 0 → (nI L - 1 < p2 ↔ nI L ≤ p2) := by
    intro L hL c0
    rw [Int32.lt_iff_toInt_lt] at c0
    rw [Int32.lt_iff_toInt_lt, Int32.le_iff_toInt_le]
    have e0 : (0 : Int32).toInt = 0 := by decide
    cases L with
    | zero =>
      have e1 : (nI 0 - 1).toInt = -1 := by decide +kernel
      have e2 : (nI 0).toInt = 0 := by decide +kernel
      omega
    | succ L =>
      rw [nI_pred, nI_toInt (by omega), nI_toInt (by omega)]
      omega
  refine C_isWithin (fun a2 b2 => T1 ?_) (fun z => T0 ⟨rfl, bad ?_⟩)
  · have b3 : ¬ nI (t - s) ≤ p2 := fun z => b2 ((hw _ (by omega) a2).mpr z)
    obtain ⟨i, hi, rfl⟩ := nI_of a2
    have hit : i < t - s := by
      rcases Nat.lt_or_ge i (t - s) with z | z
      · exact z
      · exact absurd (nI_le z hi) b3
    refine C_startOf hq ?_
    rw [x2, z3]
    rintro x3 rfl
    rw [nI_add, nI_clamp (by omega)]
    refine ⟨fun c => absurd c (nI_pos (by omega)), fun _ => ⟨fun c => absurd c (nI_ge (show s + i < 400 by omega) (by decide)), fun _ => ⟨vp_in_nI (show s + i < 400 by omega) (by decide), ?_⟩⟩⟩
    rintro h3 rfl
    have eM' : endM j q (xup h 100 0 (h (30 + j + 10) (s + i))) - xup h 100 0 (h (30 + j + 10) (s + i)) 81 (7 * j + q) = nI (t - s) := by
      rw [endM_er (xup_row (by decide)) (xup_row (by decide)), xup_row (by decide)]; exact eM
    refine M_part1 hj a (by rw [xup_row (by decide), ← e8]; exact b) (T1 ⟨fun c => absurd c (nI_pos (by omega)), fun _ => M_endOf hj hq (M_startOf hj hq ⟨fun z => absurd (by rw [eM'] at z; exact z) b3, fun _ => M_h0 (T1 (M_startOf hj hq ?_))⟩)⟩)
    have e81 : xup (xup h 100 0 (h (30 + j + 10) (s + i))) 60 0 0 81 (7 * j + q) = nI s := by rw [xup_row (by decide), xup_row (by decide)]; exact z3
    have e82 : (400 : Int32) * nI j + nI s + nI i = nI (400 * j + (s + i)) := by
      rw [show (400 : Int32) * nI j = nI (400 * j) from pk_mul 400 j, nI_add, nI_add, Nat.add_assoc]
    rw [e81, e82, nI_clamp (by omega)]
    refine ⟨vp_in_nI (by omega) (by decide), fin_r hJ g ?_⟩
    rw [xup_row (by decide), xup_row (by decide)]
    exact rf.2.2.2.2.2.2.2.1 (s + i) (by rw [z1, nI_clamp (by omega)]; omega)
  · rcases z with z | z
    · exact Or.inl z
    · by_cases c0 : p2 < 0
      · exact Or.inl c0
      · exact Or.inr ((hw _ (by omega) c0).mp z)
