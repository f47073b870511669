/-! PURE PART 9: message, pass, rotate, the forwarder's calls, lines, line -/
theorem Kc_go {s f v line len : Int32} {h : xH} : Kc h (cGo s f v line len 6 (0, h)).2 := fun a ha => cGo_o (by omega) (by omega) (Or.inr (by omega)) 6
theorem Km_go {s f v line len : Int32} {m : xH} : Km m (fGo s f v line len 6 (0, m)).2 := ⟨fun a ha => fGo_o (by omega) (by omega) (by omega) 6, fGo_60 (by decide) (by decide) (by decide) 6⟩
theorem Kc_enter {fate set : Int32} {h : xH} : Kc h (cEnter fate set h) := by
  unfold cEnter
  split
  · exact Kc_r
  · exact Kc_t (Kc_t (Kc_u (by decide)) (Kc_u (by decide))) (Kc_u (by decide))
theorem Km_notes {fate set : Int32} {m : xH} : Km m (fNotes fate set m) := Km_t (Km_t (Km_u (by decide) (by decide) (Or.inl (by decide))) (Km_u (by decide) (by decide) (Or.inl (by decide)))) (Km_u (by decide) (by decide) (Or.inr (by decide)))
theorem Kc_tell {k : Nat} {h : xH} (hk : k < 60) : Kc h (cTell k h) := by
  unfold cTell
  split
  · exact Kc_r
  · exact Kc_t Kc_go (Kc_u hk)
theorem Kc_tellD {k : Nat} {h : xH} (hk : k < 60) : Kc h (cTellD k h) := by
  unfold cTellD
  split
  · exact Kc_r
  · exact Kc_t Kc_go (Kc_u hk)
theorem Km_tellR {s : Nat} {m : xH} : Km m (fTellR s m) := Km_t (Km_u (by decide) (by decide) (Or.inl (by decide))) Km_go
theorem Km_tellD {s : Nat} {m : xH} : Km m (fTellD s m) := Km_t (Km_u (by decide) (by decide) (Or.inl (by decide))) Km_go
theorem Km_tellA {s : Nat} {m : xH} : Km m (fTellA s m) := by
  unfold fTellA
  split
  · exact Km_r
  · exact Km_tellR
theorem Km_tellB {s : Nat} {m : xH} : Km m (fTellB s m) := by
  unfold fTellB
  split
  · exact Km_r
  · exact Km_tellD
theorem Kc_fold {k : Nat} {now : Int32} {h : xH} (hk : k < 60) : Kc h (cFold k now h) := by
  unfold cFold
  split
  · exact Kc_t (Kc_u hk) (Kc_u hk)
  · exact Kc_u hk
theorem Km_fold {s : Nat} {m : xH} : Km m (fFold s m) := Km_t (Km_u (by decide) (by decide) (Or.inl (by decide))) (Km_u (by decide) (by decide) (Or.inl (by decide)))
theorem Kc_last {k : Nat} {a b d e : Int32} {h : xH} (hk : k < 60) : Kc h (cLast k a b d e h) := Kc_t (Kc_t (Kc_t (Kc_u hk) (Kc_u hk)) (Kc_u hk)) (Kc_u hk)
theorem Kc_msg {k : Nat} {p0 p1 p2 p3 p4 : Int32} {h : xH} (hk : k < 60) : Kc h (cMsg k p0 p1 p2 p3 p4 h).2 := by
  unfold cMsg
  split
  · exact Kc_t (Kc_fold hk) Kc_enter
  · split
    · exact Kc_t (Kc_t (Kc_tell hk) (Kc_u hk)) Kc_enter
    · exact Kc_t (Kc_t (Kc_t (Kc_t (Kc_t (Kc_tell hk) (Kc_u hk)) (Kc_tellD hk)) (Kc_last hk)) Kc_go) Kc_enter
theorem Km_msg {s : Nat} {p1 p2 p4 its : Int32} {m : xH} : Km m (fMsg s p1 p2 p4 its m).2 := by
  unfold fMsg
  split
  · exact Km_t Km_fold Km_notes
  · split
    · exact Km_t (Km_t Km_tellA (Km_u (by decide) (by decide) (Or.inl (by decide)))) Km_notes
    · exact Km_t (Km_t (Km_t (Km_t (Km_t Km_tellA (Km_u (by decide) (by decide) (Or.inl (by decide)))) Km_tellB) (Km_u (by decide) (by decide) (Or.inl (by decide)))) Km_go) Km_notes
theorem op_message {h : xH} (g : LG h) {p0 p1 p2 p3 p4 : Int32} {J : Int32 → Int32 → xH → Prop} (hJ : Ends3 J) : w_L_message p0 p1 p2 p3 p4 h (fun k h1 => w_X6_message p0 p1 p2 p3 p4 h1 (fun b h2 => J k b h2)) := by
  obtain ⟨rl, n, hn, h4⟩ := LG_RL g
  have e62 : h 6 2 = nI n := by rw [rl.1]; exact hn
  by_cases G : (¬ p0 < 0 ∧ ¬ (5 : Int32) < p0) ∧ (¬ p1 < 0 ∧ ¬ (7 : Int32) < p1) ∧ (¬ p2 < 0 ∧ ¬ (7 : Int32) < p2) ∧ (¬ p3 < 0 ∧ ¬ (99 : Int32) < p3) ∧ (¬ p4 < 1 ∧ ¬ (200 : Int32) < p4) ∧ n < 400
  · obtain ⟨⟨a0, b0⟩, ⟨a1, b1⟩, ⟨a2, b2⟩, ⟨a3, b3⟩, ⟨a4, b4⟩, n4⟩ := G
    obtain ⟨s, hs, rfl⟩ := rng (hi := 5) (by decide) a0 b0
    obtain ⟨f, hf, rfl⟩ := rng (hi := 7) (by decide) a1 b1
    obtain ⟨v, hv, rfl⟩ := rng (hi := 7) (by decide) a2 b2
    obtain ⟨t, ht, rfl⟩ := rng (hi := 99) (by decide) a3 b3
    have a40 : ¬ p4 < 0 := fun z => a4 (by
      rw [Int32.lt_iff_toInt_lt] at z ⊢
      have e0 : (0 : Int32).toInt = 0 := by decide
      have e1 : (1 : Int32).toInt = 1 := by decide
      omega)
    obtain ⟨l, hl, rfl⟩ := rng (hi := 200) (by decide) a40 b4
    obtain ⟨l, rfl⟩ : ∃ l', l = l' + 1 := by
      rcases l with _ | l
      · exact absurd (by decide) a4
      · exact ⟨l, rfl⟩
    refine C_msg (by omega) (by omega) (by omega) (by omega) (by omega) (by rw [e62]; exact nI_lt n4 (by decide)) ?_
    rintro h3 rfl
    obtain ⟨c, g⟩ := g
    have kc := Kc_msg (k := 10 + s) (p0 := nI s) (p1 := nI f) (p2 := nI v) (p3 := nI t) (p4 := nI (l + 1)) (h := h) (by omega)
    have gb := br (c := c) (r := (cMsg (10 + s) (nI s) (nI f) (nI v) (nI t) (nI (l + 1)) h).1) g kc
    have g1 : GG c h (xup (cMsg (10 + s) (nI s) (nI f) (nI v) (nI t) (nI (l + 1)) h).2 100 0 (cMsg (10 + s) (nI s) (nI f) (nI v) (nI t) (nI (l + 1)) h).1) := GG_fr g (fun _ _ => rfl) (fun a b h1 h2 _ => by rw [xup_row (by omega), kc a h1])
    refine M_msg (by omega) (by omega) (by omega) (by omega) (by omega) g1 (l := n) (by rw [xup_row (by decide), kc 60 (by decide)]; exact hn) n4 ?_
    obtain ⟨q1, q2⟩ := msg_R (s := s) (f := f) (v := v) (t := t) (n := l) (l := n) (by omega) (by omega) (by omega) (by omega) (by omega) gb (by rw [xup_ne (Or.inr (by decide)), xup_row (by decide), kc 60 (by decide)]; exact hn) n4
    exact br_e hJ q2 Km_msg q1
  · unfold w_L_message w_X5_message
    have x1 : ∀ s, w_X6_message_56 p0 p1 p2 p3 p4 (fun b h2 => J 1 b h2) 0 s h := fun s => T0 (M_h1 (T0 (fin_x hJ g (by decide))))
    have x2 : w_X6_message_55 p0 p1 p2 p3 p4 (fun b h2 => J 2 b h2) 1 h := T1 (T0 (M_h2 (T0 (fin_x hJ g (by decide)))))
    refine C_senderAt (fun j hj e => ⟨⟨by omega, by omega⟩, ?_⟩) (fun hn => Or.inl ⟨rfl, M_n (bad_of (hi := 5) (by decide) (fun j hj => hn j (by omega))) (M_b (T1 (M_b (T1 (M_b (T1 (M_b (T1 (x1 1)) (T0 (x1 0)))) (T0 (x1 0)))) (T0 (x1 0)))) (T0 (x1 0)))⟩)
    have y0 : ¬ p0 < 0 ∧ ¬ (5 : Int32) < p0 := by rw [e]; exact nI_rng (n := j) (hi := 5) (by omega) (by decide)
    refine C_isWithin (fun a1 b1 => T1 ?_) (fun q => T0 (Or.inr (Or.inl ⟨rfl, M_y y0 (M_n q (T0 x2))⟩)))
    refine C_isWithin (fun a2 b2 => T1 ?_) (fun q => T0 (Or.inr (Or.inl ⟨rfl, M_y y0 (M_y ⟨a1, b1⟩ (T1 (M_n q (T0 x2))))⟩)))
    refine C_isWithin (fun a3 b3 => T1 ?_) (fun q => T0 (Or.inr (Or.inl ⟨rfl, M_y y0 (M_y ⟨a1, b1⟩ (T1 (M_y ⟨a2, b2⟩ (T1 (M_n q (T0 x2))))))⟩)))
    refine C_isWithin (fun a4 b4 => T1 ?_) (fun q => T0 (Or.inr (Or.inl ⟨rfl, M_y y0 (M_y ⟨a1, b1⟩ (T1 (M_y ⟨a2, b2⟩ (T1 (M_y ⟨a3, b3⟩ (T1 (M_n q (T0 x2))))))))⟩)))
    have n400 : n = 400 := by
      rcases Nat.lt_or_ge n 400 with z | z
      · exact absurd ⟨y0, ⟨a1, b1⟩, ⟨a2, b2⟩, ⟨a3, b3⟩, ⟨a4, b4⟩, z⟩ G
      · omega
    subst n400
    have hfull : ¬ h 6 2 < 400 := by rw [e62]; exact nI_nlt (a := 400) (b := 400) (by decide) (by decide)
    refine ⟨fun c => absurd c hfull, fun _ => T1 (Or.inr (Or.inr ⟨rfl, M_y y0 (M_y ⟨a1, b1⟩ (T1 (M_y ⟨a2, b2⟩ (T1 (M_y ⟨a3, b3⟩ (T1 (M_y ⟨a4, b4⟩ (T1 (T1 (T1 ⟨fun _ => M_h3 (T0 (fin_x hJ g (by decide))), fun c => absurd hn c⟩))))))))))⟩))⟩
-- pass
theorem Kc_rot {k : Nat} {h : xH} (hk : k < 40) : Kc h (cRot k h) := fun a ha => cRot_o (by omega) (by omega)
theorem Km_rot {f : Nat} {m : xH} : Km m (fRot f m) := ⟨fun a ha => fRot_o (by omega) (by omega) (by omega) (by omega), fRot_60 (by decide)⟩
theorem Kc_dueL : ∀ d, ∀ h : xH, Kc h (cDueL d h) := by
  intro d
  induction d with
  | zero => intro h; exact Kc_r
  | succ d ih =>
    intro h
    show Kc h (match bC h 6 with | none => h | some k => cDueL d (cTell (10 + k) h))
    cases hb : bC h 6 with
    | none => exact Kc_r
    | some k => exact Kc_t (Kc_tell (by have := (bst_lt hb).1; omega)) (ih _)
theorem Km_dueL : ∀ d, ∀ m : xH, Km m (fDueL d m) := by
  intro d
  induction d with
  | zero => intro h; exact Km_r
  | succ d ih =>
    intro m
    show Km m (match bM m 6 with | none => m | some k => fDueL d (fTellR k m))
    cases hb : bM m 6 with
    | none => exact Km_r
    | some k => exact Km_t Km_tellR (ih _)
theorem Kc_give {h : xH} : ∀ n, n ≤ 6 → Kc h (cGive n h) := by
  intro n
  induction n with
  | zero => intro _; exact Kc_r
  | succ n ih =>
    intro hn
    show Kc h (if _ then _ else _)
    split
    · exact ih (by omega)
    · exact Kc_t (ih (by omega)) (Kc_u (by omega))
theorem Km_give {m : xH} : ∀ n, Km m (fGive n m) := by
  intro n
  induction n with
  | zero => exact Km_r
  | succ n ih => exact Km_t ih (Km_u (by decide) (by decide) (Or.inl (by decide)))
theorem Kc_age {h : xH} : ∀ n, n ≤ 4 → Kc h (cAge n h) := by
  intro n
  induction n with
  | zero => intro _; exact Kc_r
  | succ n ih =>
    intro hn
    show Kc h (if _ then _ else _)
    split
    · exact Kc_t (ih (by omega)) (Kc_rot (by omega))
    · exact ih (by omega)
theorem Km_age {m : xH} : ∀ n, Km m (fAge n m) := by
  intro n
  induction n with
  | zero => exact Km_r
  | succ n ih =>
    show Km m (if _ then _ else _)
    split
    · exact Km_t ih Km_rot
    · exact ih
theorem Kc_sec {h : xH} : Kc h (cSec h) := by
  refine Kc_t (Kc_t ?_ (Kc_dueL 6 _)) (Kc_age 4 (by decide))
  refine Kc_t (Kc_u (k := 0) (j := 5) (x := h 0 5 + 1) (by decide)) ?_
  unfold cSecG
  split
  · exact Kc_give 6 (by decide)
  · exact Kc_r
theorem Km_sec {m : xH} : Km m (fSec m) := Km_t (Km_t (Km_t (Km_u (by decide) (by decide) (Or.inr (by decide))) (Km_give 6)) (Km_dueL 6 _)) (Km_age 4)
theorem Kc_secs : ∀ n, ∀ h : xH, Kc h (cSecs n h) := by
  intro n
  induction n with
  | zero => intro h; exact Kc_r
  | succ n ih => intro h; exact Kc_t Kc_sec (ih _)
theorem Km_secs : ∀ n, ∀ m : xH, Km m (fSecs n m) := by
  intro n
  induction n with
  | zero => intro h; exact Km_r
  | succ n ih => intro h; exact Km_t Km_sec (ih _)
theorem rng1 {p : Int32} {hi : Nat} (hh : hi < 2 ^ 31) (h0 : ¬ p < 1) (h1 : ¬ nI hi < p) : ∃ j, 1 ≤ j ∧ j ≤ hi ∧ p = nI j := by
  have a0 : ¬ p < 0 := fun z => h0 (by
    rw [Int32.lt_iff_toInt_lt] at z ⊢
    have e0 : (0 : Int32).toInt = 0 := by decide
    have e1 : (1 : Int32).toInt = 1 := by decide
    omega)
  obtain ⟨j, hj, rfl⟩ := rng hh a0 h1
  refine ⟨j, ?_, hj, rfl⟩
  rcases j with _ | j
  · exact absurd (by decide) h0
  · omega
theorem op_pass {h : xH} (g : LG h) {p0 : Int32} {J : Int32 → Int32 → xH → Prop} (hJ : Ends3 J) : w_L_pass p0 h (fun k h1 => w_X6_pass p0 h1 (fun b h2 => J k b h2)) := by
  unfold w_L_pass
  by_cases G : ¬ p0 < 1 ∧ ¬ (100 : Int32) < p0
  · obtain ⟨n, hn1, hn2, rfl⟩ := rng1 (hi := 100) (by decide) G.1 G.2
    refine C_pass hn1 hn2 ?_
    rintro h3 rfl
    obtain ⟨c, g⟩ := g
    have kc := Kc_secs n h
    have gb := br (c := c) (r := xsum (cSecs n h) - xsum h) g kc
    have g1 : GG c h (xup (cSecs n h) 100 0 (xsum (cSecs n h) - xsum h)) := GG_fr g (fun _ _ => rfl) (fun a b h1 h2 _ => by rw [xup_row (by omega), kc a h1])
    refine M_pass hn1 hn2 g1 ?_
    have q := secs_GG n _ _ (GG_30 gb)
    refine br_e hJ q (Km_t (Km_u (by decide) (by decide) (Or.inr (by decide))) (Km_secs n _)) ?_
    obtain ⟨gs, N, l, gf, _⟩ := q
    exact (congrArg (fun z => z - xsum h) (gf.1.2.trans (Int32.add_comm _ _))).trans (Int32.add_sub_cancel _ _)
  · unfold w_X5_pass w_X6_pass
    refine C_isWithin (fun a b => absurd ⟨a, b⟩ G) (fun q => T0 ⟨rfl, M_n q (T0 (M_h1 (T0 (fin_x hJ g (by decide)))))⟩)
-- rotate
theorem emp_R {h m : xH} {f : Nat} (rf : RF h m f) (oo : OF m f 400) : h (30 + f) 2 = h (30 + f + 20) 0 ↔ m 79 f - m 81 (7 * f) = 0 := by
  obtain ⟨e, s, h1, h2, h3, -, h5, -, -⟩ := oo
  have h20 := h2 0 (by decide)
  have r70 : h (30 + f + 20) 0 = m 81 (7 * f) := rf.2.2.2.2.2.2.1 0 (by decide)
  rw [Nat.add_zero] at h20
  rw [rf.1, r70, h1, h20, pk_sub h3, nI_eq (by omega) (by omega), ← nI_0, nI_eq (by omega) (by decide)]
  omega
theorem op_rotate {h : xH} (g : LG h) {p0 : Int32} {J : Int32 → Int32 → xH → Prop} (hJ : Ends3 J) : w_L_rotate p0 h (fun k h1 => w_X6_rotate p0 h1 (fun b h2 => J k b h2)) := by
  unfold w_L_rotate w_X5_rotate w_X6_rotate
  refine C_fileAt (fun j hj e => ⟨⟨by omega, by omega⟩, C_isEmpty ?_⟩) (fun hn => Or.inl ⟨rfl, M_isFile (fun j hj e => absurd e (hn j hj)) (fun _ => T0 (M_h1 (T0 (fin_x hJ g (by decide)))))⟩)
  subst e
  obtain ⟨rf, oo⟩ := LG_RF g hj
  have he := emp_R rf oo
  by_cases q : h (30 + j) 2 = h (30 + j + 20) 0
  · rw [if_pos q]
    exact T1 (Or.inr ⟨rfl, M_isFile (fun j' hj' e' => T1 (M_linesOf hj ⟨fun _ => M_h2 (T0 (fin_x hJ g (by decide))), fun z => absurd (he.mp q) z⟩)) (fun hn => absurd rfl (hn j hj))⟩)
  · rw [if_neg q]
    refine T0 (C_turn ?_)
    rintro h3 rfl
    obtain ⟨c, g⟩ := g
    have kc := Kc_rot (k := 30 + j) (h := h) (by omega)
    have gb := br (c := c) (r := cRot (30 + j) h (30 + j) 8) g kc
    have er : ∀ a, 60 ≤ a → a < 100 → xup (cRot (30 + j) h) 100 0 (cRot (30 + j) h (30 + j) 8) a = h a := fun a h1 h2 => by rw [xup_row (by omega), kc a h1]
    refine M_isFile (fun j' hj' e' => T1 (M_linesOf hj ⟨fun z => absurd (he.mpr (by rw [er 79 (by decide) (by decide), er 81 (by decide) (by decide)] at z; exact z)) q, fun _ => M_h0 (T1 (M_rot hj ?_))⟩)) (fun hn => absurd rfl (hn j hj))
    rw [nI_clamp (by omega)]
    refine ⟨vp_in_nI hj (by decide), ?_⟩
    have gr := rot_GG hj gb
    refine br_e hJ gr Km_rot ?_
    obtain ⟨gs, N, l, gf, _⟩ := gr
    exact (gf.1.1 j hj).2.2.2.2.2.1
-- the forwarder
theorem GG_w {c : Int32} {h h' m m' : xH} (g : GG c h m) (ao : ∀ a, a ≠ 4 → h' a = h a) (mo : ∀ a b, ¬ (a = 60 ∧ (b = 24 ∨ b = 27 ∨ b = 28)) → m' a b = m a b) (rw' : RW h m → RW h' m') (ow : ∀ N, N ≤ 400 → OW m N → OW m' N) : GG c h' m' := by
  obtain ⟨gs, N, n, ⟨g1, g2, g3, g4, g5, g6⟩, hn, h4, hq⟩ := g
  have mr : ∀ a, a ≠ 60 → m' a = m a := fun a h1 => by funext b; exact mo a b (by omega)
  refine ⟨GS_fr gs (ao 0 (by omega)) (fun k h1 h2 => ao k (by omega)) (ao 6 (by omega)) (ao 7 (by omega)) (ao 8 (by omega)) (fun k h1 h2 => mr k (by omega)) (mo 60 1 (by omega)) (mo 60 2 (by omega)) (mo 60 3 (by omega)) (mo 60 4 (by omega)) (mo 60 31 (by omega)) (mr 92 (by omega)) (mr 93 (by omega)), N, n, ⟨RA_fr g1 (fun f hf => OF_mono (g5 f hf) (by omega)) (fun k h1 h2 => ao k (by omega)) (fun k h1 h2 => mr k (by omega)) (mo 60 30 (by omega)), rw' g2, RR_fr g3 (fun k h1 h2 => ao k (by omega)) (fun k h1 h2 => mr k (by omega)), OR_fr g4 (fun k h1 h2 => mr k (by omega)), fun f hf => OF_fr (g5 f hf) (by rw [mr 79 (by omega)]) (fun j hj => by rw [mr 81 (by omega)]) (by rw [mr 80 (by omega)]) (by rw [mr 77 (by omega)]) (by rw [mr 76 (by omega)]), ow N (by omega) g6⟩, by rw [mo 60 31 (by omega)]; exact hn, h4, ?_⟩
  rw [cntN_fr (mr 66 (by omega)) (mr 68 (by omega)) 6]; exact hq
theorem GG_RW {c : Int32} {h m : xH} (g : GG c h m) : RW h m := by obtain ⟨gs, N, n, gf, _⟩ := g; exact gf.2.1
theorem sub2 {a b c d : Int32} (e1 : a = c) (e2 : b = d) : a - b = c - d := by rw [e1, e2]
theorem op_connect {h : xH} (g : LG h) {J : Int32 → Int32 → xH → Prop} (hJ : Ends3 J) : w_L_connect h (fun k h1 => w_X6_connect h1 (fun b h2 => J k b h2)) := by
  unfold w_L_connect w_X5_connect w_X6_connect
  obtain ⟨r, o⟩ := LG_RW g
  have e45 := r.2.2.2.2.1
  refine ⟨fun c0 => ?_, fun c0 => ⟨rfl, fun z => absurd (e45.trans z) c0, fun _ => M_h1 (T0 (fin_x hJ g (by decide)))⟩⟩
  rintro h2 rfl h3 rfl
  obtain ⟨c, g⟩ := g
  have kc := Kc_u (h := h) (k := 4) (j := 5) (x := 1) (by decide)
  have gb := br (c := c) (r := xup h 4 5 1 4 1 - xup h 4 5 1 4 2) g kc
  refine ⟨fun _ => M_h0 (T1 ?_), fun z => absurd (by rw [xup_row (by decide), kc 60 (by decide)]; exact e45.symm.trans c0) z⟩
  rintro h5 rfl
  have rb := GG_RW gb
  refine br_e hJ (C := xup h 4 5 1) (GG_w gb (fun k hk => xup_row hk) (fun a b hab => xup_ne (by omega)) (fun r' => ?_) (fun N hN o' => ?_)) (Km_u (by decide) (by decide) (Or.inr (by decide))) ?_
  · refine ⟨?_, ?_, ?_, ?_, ?_, ?_⟩
    · rw [xup_ne (Or.inr (by decide)), xup_ne (Or.inr (by decide))]; exact r'.1
    · rw [xup_ne (Or.inr (by decide)), xup_ne (Or.inr (by decide))]; exact r'.2.1
    · rw [xup_ne (Or.inr (by decide)), xup_ne (Or.inr (by decide))]; exact r'.2.2.1
    · rw [xup_ne (Or.inr (by decide)), xup_ne (Or.inr (by decide))]; exact r'.2.2.2.1
    · rw [xup_same, xup_same]
    · intro j hj
      rw [xup_ne (Or.inr (by decide))] at hj
      rw [xup_row (k := 4) (k' := 5) (by decide), xup_row (k := 60) (k' := 85) (by decide)]
      exact r'.2.2.2.2.2 j hj
  · obtain ⟨t, s, a, h1, h2, h3, h4, h5, h6, h7, h8⟩ := o'
    refine ⟨t, s, a, ?_, ?_, ?_, h4, h5, h6, h7, Or.inr xup_same⟩
    · rw [xup_ne (Or.inr (by decide))]; exact h1
    · rw [xup_ne (Or.inr (by decide))]; exact h2
    · rw [xup_ne (Or.inr (by decide))]; exact h3
  · exact sub2 ((xup_ne (Or.inr (by decide))).trans (rb.1.trans (xup_ne (Or.inr (by decide))).symm)) ((xup_ne (Or.inr (by decide))).trans (rb.2.1.trans (xup_ne (Or.inr (by decide))).symm))
theorem op_disconnect {h : xH} (g : LG h) {J : Int32 → Int32 → xH → Prop} (hJ : Ends3 J) : w_L_disconnect h (fun k h1 => w_X6_disconnect h1 (fun b h2 => J k b h2)) := by
  unfold w_L_disconnect w_X5_disconnect w_X6_disconnect
  obtain ⟨r, o⟩ := LG_RW g
  have e45 := r.2.2.2.2.1
  refine ⟨fun c0 => ⟨rfl, fun _ => M_h1 (T0 (fin_x hJ g (by decide))), fun z => absurd (e45.symm.trans c0) z⟩, fun c0 => ?_⟩
  rintro h1 rfl h2 rfl h3 rfl
  obtain ⟨c, g⟩ := g
  have kc : Kc h (xup (xup h 4 5 0) 4 2 (xup h 4 5 0 4 3)) := Kc_t (Kc_u (by decide)) (Kc_u (by decide))
  have gb := br (c := c) (r := h 4 2 - h 4 3) g kc
  have rb := GG_RW gb
  refine ⟨fun z => absurd (e45.trans (by rw [xup_row (by decide), kc 60 (by decide)] at z; exact z)) c0, fun _ => M_h0 (T1 ?_)⟩
  rintro x5 rfl h6 rfl h7 rfl
  refine br_e hJ (C := xup (xup h 4 5 0) 4 2 (xup h 4 5 0 4 3)) (GG_w gb (fun k hk => by rw [xup_row hk, xup_row hk]) (fun a b hab => by rw [xup_ne (by omega), xup_ne (by omega)]) (fun r' => ?_) (fun N hN o' => ?_)) (Km_t (Km_u (by decide) (by decide) (Or.inr (by decide))) (Km_u (by decide) (by decide) (Or.inr (by decide)))) ?_
  · refine ⟨?_, ?_, ?_, ?_, ?_, ?_⟩
    · rw [xup_ne (Or.inr (by decide)), xup_ne (Or.inr (by decide)), xup_ne (Or.inr (by decide)), xup_ne (Or.inr (by decide))]; exact r'.1
    · rw [xup_same, xup_same, xup_ne (Or.inr (by decide)), xup_ne (Or.inr (by decide))]; exact r'.2.2.1
    · rw [xup_ne (Or.inr (by decide)), xup_ne (Or.inr (by decide)), xup_ne (Or.inr (by decide)), xup_ne (Or.inr (by decide))]; exact r'.2.2.1
    · rw [xup_ne (Or.inr (by decide)), xup_ne (Or.inr (by decide)), xup_ne (Or.inr (by decide)), xup_ne (Or.inr (by decide))]; exact r'.2.2.2.1
    · rw [xup_ne (Or.inr (by decide)), xup_same, xup_ne (Or.inr (by decide)), xup_same]
    · intro j hj
      rw [xup_ne (Or.inr (by decide)), xup_ne (Or.inr (by decide))] at hj
      rw [xup_row (k := 4) (k' := 5) (by decide), xup_row (k := 4) (k' := 5) (by decide), xup_row (k := 60) (j := 27) (k' := 85) (by decide), xup_row (k := 60) (j := 24) (k' := 85) (by decide)]
      exact r'.2.2.2.2.2 j hj
  · obtain ⟨t, s, a, h1, h2, h3, h4, h5, h6, h7, h8⟩ := o'
    refine ⟨t, a, a, ?_, ?_, ?_, by omega, by omega, by omega, h7, Or.inl ?_⟩
    · rw [xup_ne (Or.inr (by decide)), xup_ne (Or.inr (by decide))]; exact h1
    · rw [xup_same, xup_ne (Or.inr (by decide))]; exact h3
    · rw [xup_ne (Or.inr (by decide)), xup_ne (Or.inr (by decide))]; exact h3
    · rw [xup_ne (Or.inr (by decide)), xup_same]
  · exact sub2 rb.2.1 rb.2.2.1
theorem C_fwdAt {k : Nat} {h : xH} {K : Int32 → xH → Prop} (hk : k < 400) (hK : K (h 5 k) h) : w_X0_lineAt (nI k) h K := by
  refine ⟨fun c => absurd c (nI_pos (by omega)), fun _ => ⟨fun c => absurd c (nI_ge hk (by decide)), fun _ => ⟨vp_in_nI hk (by decide), ?_⟩⟩⟩
  rw [nI_clamp (by omega)]; exact hK
theorem op_send {h : xH} (g : LG h) {J : Int32 → Int32 → xH → Prop} (hJ : Ends3 J) : w_L_send h (fun k h1 => w_X6_send h1 (fun b h2 => J k b h2)) := by
  unfold w_L_send w_X5_send w_X6_send
  obtain ⟨r, t, s, a, h1, h2, h3, o1, o2, o3, o4, o5⟩ := LG_RW g
  have e45 := r.2.2.2.2.1
  have x32 : w_X6_send_32 (fun b h2 => J 1 b h2) 60 h := by
    unfold w_X6_send_32 w_X6_send_37
    exact M_h1 (T0 (fin_x hJ g (by decide)))
  have e1 : h 4 1 - h 4 2 = nI (t - s) := by rw [r.1, r.2.1, h1, h2, pk_sub o2]
  have e2 : h 4 2 - h 4 3 = nI (s - a) := by rw [r.2.1, r.2.2.1, h2, h3, pk_sub o1]
  have f2 : h 60 27 - h 60 28 = nI (s - a) := by rw [h2, h3, pk_sub o1]
  refine ⟨fun c0 => T0 ⟨rfl, fun _ => x32, fun z => absurd (e45.symm.trans c0) z⟩, fun c0 => ?_⟩
  have d0 : ¬ h 60 24 = 0 := fun z => c0 (e45.trans z)
  refine ⟨fun c1 => T0 ⟨rfl, fun z => absurd z d0, fun _ => ⟨fun _ => x32, fun z => absurd ?_ z⟩⟩, fun c1 => ?_⟩
  · rw [e1, ← nI_0, nI_leI (by omega) (by decide)] at c1
    rw [h1, h2, nI_eq (by omega) (by omega)]; omega
  have hst : s < t := by
    rcases Nat.lt_or_ge s t with z | z
    · exact z
    · exact absurd (by rw [e1, show t - s = 0 by omega]; decide) c1
  have d1 : ¬ h 60 26 = h 60 27 := by rw [h1, h2, nI_eq (by omega) (by omega)]; omega
  refine ⟨fun c2 => T0 ⟨rfl, fun z => absurd z d0, fun _ => ⟨fun z => absurd z d1, fun _ => ⟨fun _ => x32, fun z => absurd ?_ z⟩⟩⟩, fun c2 => T1 ?_⟩
  · rw [e2] at c2
    rw [f2]
    have := (nI_leI (a := 5) (b := s - a) (by decide) (by omega)).mp c2
    rw [show s - a = 5 by omega]; rfl
  have hsa : s - a < 5 := by
    rcases Nat.lt_or_ge (s - a) 5 with z | z
    · exact z
    · exact absurd (by rw [e2]; exact nI_le z (by omega)) c2
  have d2 : ¬ h 60 27 - h 60 28 = 5 := by
    rw [f2]
    exact fun z => absurd ((nI_eq (a := s - a) (b := 5) (by omega) (by decide)).mp z) (by omega)
  unfold w_X0_sendFirst
  rw [show h 4 2 = nI s by rw [r.2.1]; exact h2]
  refine C_fwdAt (by omega) ?_
  rintro h3' rfl h4' rfl
  obtain ⟨c, g⟩ := g
  rw [show h 4 2 = nI s by rw [r.2.1]; exact h2]
  have kc := Kc_u (h := h) (k := 4) (j := 2) (x := nI s + 1) (by decide)
  have gb := br (c := c) (r := h 5 s) g kc
  have rb := GG_RW gb
  have er : ∀ a, 60 ≤ a → a < 100 → xup (xup h 4 2 (nI s + 1)) 100 0 (h 5 s) a = h a := fun a h1 h2 => by rw [xup_row (by omega), kc a h1]
  rw [er 60 (by decide) (by decide)]
  refine ⟨fun z => absurd z d0, fun _ => ⟨fun z => absurd z d1, fun _ => ⟨fun z => absurd z d2, fun _ => M_h0 (T1 ?_)⟩⟩⟩
  rintro h7 rfl
  have b27 : xup (xup (xup h 4 2 (nI s + 1)) 100 0 (h 5 s)) 60 0 0 60 27 = nI s := by rw [xup_ne (Or.inr (by decide)), er 60 (by decide) (by decide)]; exact h2
  have b26 : xup (xup (xup h 4 2 (nI s + 1)) 100 0 (h 5 s)) 60 0 0 60 26 = nI t := by rw [xup_ne (Or.inr (by decide)), er 60 (by decide) (by decide)]; exact h1
  rw [b27, xup_same, nI_1, nI_pred, nI_clamp (by omega)]
  refine ⟨vp_in_nI (by omega) (by decide), ?_⟩
  rw [← nI_1 s]
  refine br_e hJ (r := h 5 s) (C := xup h 4 2 (nI s + 1)) (Q := xup (xup (xup (xup h 4 2 (nI s + 1)) 100 0 (h 5 s)) 60 0 0) 60 27 (nI s + 1)) (GG_w gb (fun k hk => xup_row hk) (fun a b hab => xup_ne (by omega)) (fun r' => ?_) (fun N hN o' => ?_)) (Km_u (by decide) (by decide) (Or.inr (by decide))) ?_
  · refine ⟨?_, ?_, ?_, ?_, ?_, ?_⟩
    · rw [xup_ne (Or.inr (by decide)), xup_ne (Or.inr (by decide))]; exact r'.1
    · rw [xup_same, xup_same]
    · rw [xup_ne (Or.inr (by decide)), xup_ne (Or.inr (by decide))]; exact r'.2.2.1
    · rw [xup_ne (Or.inr (by decide)), xup_ne (Or.inr (by decide))]; exact r'.2.2.2.1
    · rw [xup_ne (Or.inr (by decide)), xup_ne (Or.inr (by decide))]; exact r'.2.2.2.2.1
    · intro j hj
      rw [xup_ne (Or.inr (by decide))] at hj
      rw [xup_row (k := 4) (k' := 5) (by decide), xup_row (k := 60) (k' := 85) (by decide)]
      exact r'.2.2.2.2.2 j hj
  · obtain ⟨t', s', a', k1, k2, k3, k4, k5, k6, k7, k8⟩ := o'
    rw [b26] at k1
    rw [b27] at k2
    have et : t' = t := ((nI_eq (by omega) (by omega)).mp (k1.symm.trans (by rfl)))
    have es : s' = s := ((nI_eq (by omega) (by omega)).mp (k2.symm.trans (by rfl)))
    have b28 : xup (xup (xup h 4 2 (nI s + 1)) 100 0 (h 5 s)) 60 0 0 60 28 = nI a := by rw [xup_ne (Or.inr (by decide)), er 60 (by decide) (by decide)]; exact h3
    rw [b28] at k3
    have ea : a' = a := ((nI_eq (by omega) (by omega)).mp (k3.symm.trans (by rfl)))
    subst et; subst es; subst ea
    refine ⟨t', s' + 1, a', ?_, by rw [xup_same, nI_1], ?_, by omega, by omega, by omega, k7, ?_⟩
    · rw [xup_ne (Or.inr (by decide))]; exact b26
    · rw [xup_ne (Or.inr (by decide))]; exact b28
    · rw [xup_ne (Or.inr (by decide))]; exact k8
  · rw [xup_row (by decide)]
    have := rb.2.2.2.2.2 s (by rw [b26, nI_clamp (by omega)]; exact hst)
    rw [xup_row (by decide)] at this
    exact this
theorem op_acknowledge {h : xH} (g : LG h) {J : Int32 → Int32 → xH → Prop} (hJ : Ends3 J) : w_L_acknowledge h (fun k h1 => w_X6_acknowledge h1 (fun b h2 => J k b h2)) := by
  unfold w_L_acknowledge w_X5_acknowledge w_X6_acknowledge
  obtain ⟨r, t, s, a, h1, h2, h3, o1, o2, o3, o4, o5⟩ := LG_RW g
  have e2 : h 4 2 - h 4 3 = nI (s - a) := by rw [r.2.1, r.2.2.1, h2, h3, pk_sub o1]
  have hx : h 60 27 = h 60 28 ↔ s = a := by rw [h2, h3]; exact nI_eq (by omega) (by omega)
  refine ⟨fun c0 => ⟨rfl, fun _ => M_h1 (T0 (fin_x hJ g (by decide))), fun z => absurd (hx.mpr ?_) z⟩, fun c0 => ?_⟩
  · rw [e2, ← nI_0, nI_eq (by omega) (by decide)] at c0; omega
  have hsa : a < s := by
    rcases Nat.lt_or_ge a s with z | z
    · exact z
    · exact absurd (by rw [e2, show s - a = 0 by omega]; rfl) c0
  have d0 : ¬ h 60 27 = h 60 28 := fun z => absurd (hx.mp z) (by omega)
  unfold w_X0_acknowledgeFirst
  rw [show h 4 3 = nI a by rw [r.2.2.1]; exact h3]
  refine C_fwdAt (by omega) ?_
  rintro h3' rfl h4' rfl
  obtain ⟨c, g⟩ := g
  rw [show h 4 3 = nI a by rw [r.2.2.1]; exact h3]
  have kc := Kc_u (h := h) (k := 4) (j := 3) (x := nI a + 1) (by decide)
  have gb := br (c := c) (r := h 5 a) g kc
  have rb := GG_RW gb
  have er : ∀ a', 60 ≤ a' → a' < 100 → xup (xup h 4 3 (nI a + 1)) 100 0 (h 5 a) a' = h a' := fun a' h1 h2 => by rw [xup_row (by omega), kc a' h1]
  rw [er 60 (by decide) (by decide)]
  refine ⟨fun z => absurd z d0, fun _ => M_h0 (T1 ?_)⟩
  rintro h7 rfl
  have b27 : xup (xup (xup h 4 3 (nI a + 1)) 100 0 (h 5 a)) 60 0 0 60 27 = nI s := by rw [xup_ne (Or.inr (by decide)), er 60 (by decide) (by decide)]; exact h2
  have b26 : xup (xup (xup h 4 3 (nI a + 1)) 100 0 (h 5 a)) 60 0 0 60 26 = nI t := by rw [xup_ne (Or.inr (by decide)), er 60 (by decide) (by decide)]; exact h1
  have b28 : xup (xup (xup h 4 3 (nI a + 1)) 100 0 (h 5 a)) 60 0 0 60 28 = nI a := by rw [xup_ne (Or.inr (by decide)), er 60 (by decide) (by decide)]; exact h3
  rw [b28, xup_same, nI_1, nI_pred, nI_clamp (by omega)]
  refine ⟨vp_in_nI (by omega) (by decide), ?_⟩
  rw [← nI_1 a]
  refine br_e hJ (r := h 5 a) (C := xup h 4 3 (nI a + 1)) (Q := xup (xup (xup (xup h 4 3 (nI a + 1)) 100 0 (h 5 a)) 60 0 0) 60 28 (nI a + 1)) (GG_w gb (fun k hk => xup_row hk) (fun a b hab => xup_ne (by omega)) (fun r' => ?_) (fun N hN o' => ?_)) (Km_u (by decide) (by decide) (Or.inr (by decide))) ?_
  · refine ⟨?_, ?_, ?_, ?_, ?_, ?_⟩
    · rw [xup_ne (Or.inr (by decide)), xup_ne (Or.inr (by decide))]; exact r'.1
    · rw [xup_ne (Or.inr (by decide)), xup_ne (Or.inr (by decide))]; exact r'.2.1
    · rw [xup_same, xup_same]
    · rw [xup_ne (Or.inr (by decide)), xup_ne (Or.inr (by decide))]; exact r'.2.2.2.1
    · rw [xup_ne (Or.inr (by decide)), xup_ne (Or.inr (by decide))]; exact r'.2.2.2.2.1
    · intro j hj
      rw [xup_ne (Or.inr (by decide))] at hj
      rw [xup_row (k := 4) (k' := 5) (by decide), xup_row (k := 60) (k' := 85) (by decide)]
      exact r'.2.2.2.2.2 j hj
  · obtain ⟨t', s', a', k1, k2, k3, k4, k5, k6, k7, k8⟩ := o'
    rw [b26] at k1
    rw [b27] at k2
    rw [b28] at k3
    have et : t' = t := ((nI_eq (by omega) (by omega)).mp (k1.symm.trans (by rfl)))
    have es : s' = s := ((nI_eq (by omega) (by omega)).mp (k2.symm.trans (by rfl)))
    have ea : a' = a := ((nI_eq (by omega) (by omega)).mp (k3.symm.trans (by rfl)))
    subst et; subst es; subst ea
    refine ⟨t', s', a' + 1, ?_, ?_, by rw [xup_same, nI_1], by omega, by omega, by omega, k7, ?_⟩
    · rw [xup_ne (Or.inr (by decide))]; exact b26
    · rw [xup_ne (Or.inr (by decide))]; exact b27
    · rw [xup_ne (Or.inr (by decide))]; exact k8
  · rw [xup_row (by decide)]
    have := rb.2.2.2.2.2 a (by rw [b26, nI_clamp (by omega)]; omega)
    rw [xup_row (by decide)] at this
    exact this
