/-! PURE PART 7: from one call of the law's loop to the next -/
def LG (h : xH) : Prop := ∃ c, GG c h h
theorem GG_fr {c : Int32} {h h' m m' : xH} (g : GG c h m) (ao : ∀ a, a < 60 → h' a = h a) (mo : ∀ a b, 60 ≤ a → a < 100 → ¬ (a = 60 ∧ b = 0) → m' a b = m a b) : GG c h' m' := by
  obtain ⟨gs, N, n, gf, hn, h4, hp⟩ := g
  have mr : ∀ a, 60 < a → a < 100 → m' a = m a := fun a h1 h2 => by funext b; exact mo a b (by omega) h2 (by omega)
  refine ⟨GS_fr gs (ao 0 (by decide)) (fun k h1 h2 => ao k (by omega)) (ao 6 (by decide)) (ao 7 (by decide)) (ao 8 (by decide)) (fun k h1 h2 => mr k (by omega) (by omega)) (mo 60 1 (by decide) (by decide) (by decide)) (mo 60 2 (by decide) (by decide) (by decide)) (mo 60 3 (by decide) (by decide) (by decide)) (mo 60 4 (by decide) (by decide) (by decide)) (mo 60 31 (by decide) (by decide) (by decide)) (mr 92 (by decide) (by decide)) (mr 93 (by decide) (by decide)), N, n, GF_fr gf (by omega) (ao 4 (by decide)) (ao 5 (by decide)) (fun k h1 h2 => ao k (by omega)) (fun k h1 h2 => mr k (by omega) (by omega)) (mr 85 (by decide) (by decide)) (fun b h1 h2 => mo 60 b (by decide) (by decide) (by omega)), ?_, h4, ?_⟩
  · rw [mo 60 31 (by decide) (by decide) (by decide)]; exact hn
  · rw [cntN_fr (mr 66 (by decide) (by decide)) (mr 68 (by decide) (by decide)) 6]; exact hp
theorem LG_of {c : Int32} {h m q : xH} (g : GG c h m) (ao : ∀ a, a < 60 → q a = h a) (mo : ∀ a b, 60 ≤ a → a < 100 → ¬ (a = 60 ∧ b = 0) → q a b = m a b) : LG q := ⟨c, GG_fr g ao mo⟩
theorem LG_0 {h : xH} {x : Int32} (g : LG h) : LG (xup h 60 0 x) := by
  obtain ⟨c, g⟩ := g
  exact LG_of g (fun a ha => xup_row (by omega)) (fun a b h1 h2 h3 => xup_ne (by omega))
theorem LG_100 {h : xH} {x : Int32} (g : LG h) : LG (xup h 100 0 x) := by
  obtain ⟨c, g⟩ := g
  exact LG_of g (fun a ha => xup_row (by omega)) (fun a b h1 h2 h3 => by rw [xup_row (by omega)])
/-- what the law asks behind a call of both -/
def Ends3 (J : Int32 → Int32 → xH → Prop) : Prop := ∀ (k b : Int32) (q : xH), q 60 0 = k → (k = 0 → q 100 0 = b) → LG q → J k b q
theorem fin_x {J : Int32 → Int32 → xH → Prop} (hJ : Ends3 J) {h : xH} (g : LG h) {k b : Int32} (hk : ¬ k = 0) : J k b (xup h 60 0 k) := hJ k b _ xup_same (fun q => absurd q hk) (LG_0 g)
theorem fin_r {J : Int32 → Int32 → xH → Prop} (hJ : Ends3 J) {h : xH} (g : LG h) {v b : Int32} (e : v = b) : J 0 b (xup (xup h 100 0 v) 60 0 0) := hJ 0 b _ xup_same (fun _ => by rw [xup_row (by decide), xup_same, e]) (LG_0 (LG_100 g))
theorem rng {p : Int32} {hi : Nat} (hh : hi < 2 ^ 31) (h0 : ¬ p < 0) (h1 : ¬ nI hi < p) : ∃ j, j ≤ hi ∧ p = nI j := by
  obtain ⟨j, hj, e⟩ := nI_of h0
  subst e
  refine ⟨j, ?_, rfl⟩
  rcases Nat.lt_or_ge hi j with q | q
  · exact absurd (nI_lt q hj) h1
  · exact q
theorem C_at {p : Int32} {n : Nat} (hn : n < 2 ^ 31) {A B : Prop} {X : Nat → Prop} (h1 : ∀ j, j < n → p = nI j → X j) (h0 : (∀ j, j < n → ¬ p = nI j) → A) (hX : ∀ j, j < n → p = nI j → X j → B) : (p < 0 → A) ∧ (¬ p < 0 → (p < nI n → B) ∧ (¬ p < nI n → A)) := by
  refine ⟨fun c => h0 (fun j hj e => ?_), fun c => ⟨fun c2 => ?_, fun c2 => h0 (fun j hj e => ?_)⟩⟩
  · rw [e] at c; exact nI_pos (by omega) c
  · obtain ⟨j, hj, e⟩ := nI_of c
    have hjn : j < n := by
      rw [e] at c2
      exact (nI_ltI hj hn).mp c2
    exact hX j hjn e (h1 j hjn e)
  · rw [e] at c2; exact c2 (nI_lt hj hn)
theorem C_senderAt {p : Int32} {h : xH} {K : Nat → xH → Prop} {KX : String → xH → Prop} (h1 : ∀ j, j < 6 → p = nI j → K (10 + j) h) (h0 : (∀ j, j < 6 → ¬ p = nI j) → KX "java/lang/IndexOutOfBoundsException" h) : w_X5_senderAt p h K KX :=
  C_at (n := 6) (by decide) (X := fun j => K (10 + j) h) h1 h0 (fun j hj e hk => by rw [e, nI_clamp (by omega)]; exact ⟨vp_in_nI hj (by decide), hk⟩)
theorem C_ruleAt {p : Int32} {h : xH} {K : Nat → xH → Prop} {KX : String → xH → Prop} (h1 : ∀ j, j < 6 → p = nI j → K (20 + j) h) (h0 : (∀ j, j < 6 → ¬ p = nI j) → KX "java/lang/IndexOutOfBoundsException" h) : w_X5_ruleAt p h K KX :=
  C_at (n := 6) (by decide) (X := fun j => K (20 + j) h) h1 h0 (fun j hj e hk => by rw [e, nI_clamp (by omega)]; exact ⟨vp_in_nI hj (by decide), hk⟩)
theorem C_fileAt {p : Int32} {h : xH} {K : Nat → xH → Prop} {KX : String → xH → Prop} (h1 : ∀ j, j < 4 → p = nI j → K (30 + j) h) (h0 : (∀ j, j < 4 → ¬ p = nI j) → KX "java/lang/IndexOutOfBoundsException" h) : w_X5_fileAt p h K KX :=
  C_at (n := 4) (by decide) (X := fun j => K (30 + j) h) h1 h0 (fun j hj e hk => by rw [e, nI_clamp (by omega)]; exact ⟨vp_in_nI hj (by decide), hk⟩)
theorem M_rng {p : Int32} (lo hi : Nat) (hh : hi < 2 ^ 31) (hl : lo ≤ hi) {m : xH} {K : Int32 → xH → Prop} (h1 : ∀ j, lo ≤ j → j ≤ hi → p = nI j → K 1 m) (h0 : (∀ j, lo ≤ j → j ≤ hi → ¬ p = nI j) → K 0 m) : w_X6_isIn p (nI lo) (nI hi) m K := by
  refine M_isIn (fun a b => ?_) (fun q => h0 (fun j h2 h3 e => ?_))
  · obtain ⟨j, hj, e⟩ := rng hh (fun z => a (by rw [Int32.lt_iff_toInt_lt] at *; rw [nI_toInt (by omega)]; have : (0 : Int32).toInt = 0 := by decide
                                                omega)) b
    refine h1 j ?_ hj e
    rcases Nat.lt_or_ge j lo with z | z
    · exact absurd (by rw [e]; exact nI_lt z (by omega)) a
    · exact z
  · rw [e] at q
    rcases q with q | q
    · exact nI_nlt h2 (by omega) q
    · exact nI_nlt h3 hh q
theorem C_rng {p : Int32} (lo hi : Nat) (hh : hi < 2 ^ 31) (hl : lo ≤ hi) {m : xH} {K : Int32 → xH → Prop} (h1 : ∀ j, lo ≤ j → j ≤ hi → p = nI j → K 1 m) (h0 : (∀ j, lo ≤ j → j ≤ hi → ¬ p = nI j) → K 0 m) : w_X5_isWithin p (nI lo) (nI hi) m K := by
  refine C_isWithin (fun a b => ?_) (fun q => h0 (fun j h2 h3 e => ?_))
  · obtain ⟨j, hj, e⟩ := rng hh (fun z => a (by rw [Int32.lt_iff_toInt_lt] at *; rw [nI_toInt (by omega)]; have : (0 : Int32).toInt = 0 := by decide
                                                omega)) b
    refine h1 j ?_ hj e
    rcases Nat.lt_or_ge j lo with z | z
    · exact absurd (by rw [e]; exact nI_lt z (by omega)) a
    · exact z
  · rw [e] at q
    rcases q with q | q
    · exact nI_nlt h2 (by omega) q
    · exact nI_nlt h3 hh q
theorem T1 {A B : Prop} (h : B) : ((1 : Int32) = 0 → A) ∧ (¬ (1 : Int32) = 0 → B) := ⟨fun q => absurd q (by decide), fun _ => h⟩
theorem T0 {A B : Prop} (h : A) : ((0 : Int32) = 0 → A) ∧ (¬ (0 : Int32) = 0 → B) := ⟨fun _ => h, fun q => absurd rfl q⟩
theorem T2 {A B : Prop} (h : B) : ((2 : Int32) = 0 → A) ∧ (¬ (2 : Int32) = 0 → B) := ⟨fun q => absurd q (by decide), fun _ => h⟩
theorem M_h0 {m : xH} {K : Int32 → xH → Prop} (hK : K 1 (xup m 60 0 0)) : w_X6_holds 0 m K := M_holds (by rw [if_pos rfl]; exact hK)
theorem M_h1 {m : xH} {K : Int32 → xH → Prop} (hK : K 0 (xup m 60 0 1)) : w_X6_holds 1 m K := M_holds (by rw [if_neg (by decide)]; exact hK)
theorem M_h2 {m : xH} {K : Int32 → xH → Prop} (hK : K 0 (xup m 60 0 2)) : w_X6_holds 2 m K := M_holds (by rw [if_neg (by decide)]; exact hK)
theorem M_h3 {m : xH} {K : Int32 → xH → Prop} (hK : K 0 (xup m 60 0 3)) : w_X6_holds 3 m K := M_holds (by rw [if_neg (by decide)]; exact hK)
theorem M_isSender {p : Int32} {m : xH} {K : Int32 → xH → Prop} (h1 : ∀ j, j < 6 → p = nI j → K 1 (xup m 60 0 0)) (h0 : (∀ j, j < 6 → ¬ p = nI j) → K 0 (xup m 60 0 1)) : w_X6_isSender p m K :=
  M_rng 0 5 (by decide) (by decide) (fun j _ hj e => T1 (M_h0 ⟨by decide +kernel, h1 j (by omega) e⟩)) (fun hn => T0 (M_h1 ⟨by decide +kernel, h0 (fun j hj => hn j (by omega) (by omega))⟩))
theorem M_isFile {p : Int32} {m : xH} {K : Int32 → xH → Prop} (h1 : ∀ j, j < 4 → p = nI j → K 1 m) (h0 : (∀ j, j < 4 → ¬ p = nI j) → K 0 m) : w_X6_isFile p m K :=
  M_rng 0 3 (by decide) (by decide) (fun j _ hj e => ⟨by decide +kernel, h1 j (by omega) e⟩) (fun hn => ⟨by decide +kernel, h0 (fun j hj => hn j (by omega) (by omega))⟩)
-- reads of senders
theorem op_tokens {h : xH} (g : LG h) {p0 : Int32} {J : Int32 → Int32 → xH → Prop} (hJ : Ends3 J) : w_L_tokens p0 h (fun k h1 => w_X6_tokens p0 h1 (fun b h2 => J k b h2)) := by
  unfold w_L_tokens w_X5_tokens
  refine C_senderAt (fun j hj e => ⟨⟨by omega, by omega⟩, ?_⟩) (fun hn => ⟨rfl, M_isSender (fun j hj e => absurd e (hn j hj)) (fun _ => T0 (fin_x hJ g (by decide)))⟩)
  rintro h3 rfl
  refine M_isSender (fun j' hj' e' => T1 ?_) (fun hn => absurd e (hn j hj))
  rw [e, nI_clamp (by omega)]
  refine ⟨vp_in_nI hj (by decide), fin_r hJ g ?_⟩
  rw [xup_row (by decide), xup_row (by decide)]
  obtain ⟨c, g⟩ := g
  exact (g.1.2.1 j hj).2.1
theorem op_repeats {h : xH} (g : LG h) {p0 : Int32} {J : Int32 → Int32 → xH → Prop} (hJ : Ends3 J) : w_L_repeats p0 h (fun k h1 => w_X6_repeats p0 h1 (fun b h2 => J k b h2)) := by
  unfold w_L_repeats w_X5_repeats
  refine C_senderAt (fun j hj e => ⟨⟨by omega, by omega⟩, ?_⟩) (fun hn => ⟨rfl, M_isSender (fun j hj e => absurd e (hn j hj)) (fun _ => T0 (fin_x hJ g (by decide)))⟩)
  rintro h3 rfl
  refine M_isSender (fun j' hj' e' => T1 ?_) (fun hn => absurd e (hn j hj))
  rw [e, nI_clamp (by omega)]
  refine ⟨vp_in_nI hj (by decide), fin_r hJ g ?_⟩
  rw [xup_row (by decide), xup_row (by decide)]
  obtain ⟨c, g⟩ := g
  exact (g.1.2.1 j hj).2.2.1
theorem op_drops {h : xH} (g : LG h) {p0 : Int32} {J : Int32 → Int32 → xH → Prop} (hJ : Ends3 J) : w_L_drops p0 h (fun k h1 => w_X6_drops p0 h1 (fun b h2 => J k b h2)) := by
  unfold w_L_drops w_X5_drops
  refine C_senderAt (fun j hj e => ⟨⟨by omega, by omega⟩, ?_⟩) (fun hn => ⟨rfl, M_isSender (fun j hj e => absurd e (hn j hj)) (fun _ => T0 (fin_x hJ g (by decide)))⟩)
  rintro h3 rfl
  refine M_isSender (fun j' hj' e' => T1 ?_) (fun hn => absurd e (hn j hj))
  rw [e, nI_clamp (by omega)]
  refine ⟨vp_in_nI hj (by decide), fin_r hJ g ?_⟩
  rw [xup_row (by decide), xup_row (by decide)]
  obtain ⟨c, g⟩ := g
  exact (g.1.2.1 j hj).2.2.2.2.1
-- reads of files
theorem LG_RF {h : xH} (g : LG h) {f : Nat} (hf : f < 4) : RF h h f ∧ OF h f 400 := by
  obtain ⟨c, gs, N, n, gf, hn, h4, hp⟩ := g
  exact ⟨gf.1.1 f hf, OF_mono (gf.2.2.2.2.1 f hf) (by omega)⟩
theorem op_size {h : xH} (g : LG h) {p0 : Int32} {J : Int32 → Int32 → xH → Prop} (hJ : Ends3 J) : w_L_size p0 h (fun k h1 => w_X6_size p0 h1 (fun b h2 => J k b h2)) := by
  unfold w_L_size w_X5_size
  refine C_fileAt (fun j hj e => ⟨⟨by omega, by omega⟩, ?_⟩) (fun hn => ⟨rfl, M_isFile (fun j hj e => absurd e (hn j hj)) (fun _ => T0 (M_h1 (T0 (fin_x hJ g (by decide)))))⟩)
  rintro h3 rfl
  refine M_isFile (fun j' hj' e' => T1 (M_h0 (T1 ?_))) (fun hn => absurd e (hn j hj))
  rw [e, nI_clamp (by omega)]
  refine ⟨vp_in_nI hj (by decide), fin_r hJ g ?_⟩
  rw [xup_row (by decide), xup_row (by decide)]
  exact (LG_RF g hj).1.2.2.2.2.1
theorem op_generations {h : xH} (g : LG h) {p0 : Int32} {J : Int32 → Int32 → xH → Prop} (hJ : Ends3 J) : w_L_generations p0 h (fun k h1 => w_X6_generations p0 h1 (fun b h2 => J k b h2)) := by
  unfold w_L_generations w_X5_generations
  refine C_fileAt (fun j hj e => ⟨⟨by omega, by omega⟩, ?_⟩) (fun hn => ⟨rfl, M_isFile (fun j hj e => absurd e (hn j hj)) (fun _ => T0 (M_h1 (T0 (fin_x hJ g (by decide)))))⟩)
  rintro h3 rfl
  refine M_isFile (fun j' hj' e' => T1 (M_h0 (T1 ?_))) (fun hn => absurd e (hn j hj))
  rw [e, nI_clamp (by omega)]
  refine ⟨vp_in_nI hj (by decide), fin_r hJ g ?_⟩
  rw [xup_row (by decide), xup_row (by decide)]
  exact (LG_RF g hj).1.2.2.2.2.2.1
-- reads without an argument
def Ends2 (J : Int32 → Int32 → xH → Prop) : Prop := ∀ (a : Int32) (q : xH), LG q → J a a q
theorem fin_2 {J : Int32 → Int32 → xH → Prop} (hJ : Ends2 J) {h : xH} (g : LG h) {a b : Int32} (e : a = b) : J a b (xup h 60 0 0) := by
  rw [e]; exact hJ b _ (LG_0 g)
theorem op_time {h : xH} (g : LG h) {J : Int32 → Int32 → xH → Prop} (hJ : Ends2 J) : w_X5_time h (fun a h1 => w_X6_time h1 (fun b h2 => J a b h2)) := by
  rintro h1 rfl
  refine fin_2 hJ g ?_
  rw [xup_ne (Or.inr (by decide))]
  obtain ⟨c, g⟩ := g; exact g.1.1.1
theorem LG_RW {h : xH} (g : LG h) : RW h h ∧ OW h 400 := by
  obtain ⟨c, gs, N, n, gf, hn, h4, hp⟩ := g
  exact ⟨gf.2.1, OW_mono gf.2.2.2.2.2 (by omega)⟩
theorem op_queued {h : xH} (g : LG h) {J : Int32 → Int32 → xH → Prop} (hJ : Ends2 J) : w_X5_queued h (fun a h1 => w_X6_queued h1 (fun b h2 => J a b h2)) := by
  rintro h1 rfl
  refine fin_2 hJ g ?_
  rw [xup_ne (Or.inr (by decide)), xup_ne (Or.inr (by decide)), (LG_RW g).1.1, (LG_RW g).1.2.1]
theorem op_inFlight {h : xH} (g : LG h) {J : Int32 → Int32 → xH → Prop} (hJ : Ends2 J) : w_X5_inFlight h (fun a h1 => w_X6_inFlight h1 (fun b h2 => J a b h2)) := by
  rintro h1 rfl
  refine fin_2 hJ g ?_
  rw [xup_ne (Or.inr (by decide)), xup_ne (Or.inr (by decide)), (LG_RW g).1.2.1, (LG_RW g).1.2.2.1]
theorem op_acknowledged {h : xH} (g : LG h) {J : Int32 → Int32 → xH → Prop} (hJ : Ends2 J) : w_X5_acknowledged h (fun a h1 => w_X6_acknowledged h1 (fun b h2 => J a b h2)) := by
  rintro h1 rfl
  refine fin_2 hJ g ?_
  rw [xup_ne (Or.inr (by decide)), (LG_RW g).1.2.2.1]
theorem op_lost {h : xH} (g : LG h) {J : Int32 → Int32 → xH → Prop} (hJ : Ends2 J) : w_X5_lost h (fun a h1 => w_X6_lost h1 (fun b h2 => J a b h2)) := by
  rintro h1 rfl
  refine fin_2 hJ g ?_
  rw [xup_ne (Or.inr (by decide)), (LG_RW g).1.2.2.2.1]
theorem LG_RL {h : xH} (g : LG h) : RLg h h ∧ ∃ n : Nat, h 60 31 = nI n ∧ n ≤ 400 := by
  obtain ⟨c, gs, N, n, gf, hn, h4, hp⟩ := g
  exact ⟨gs.2.2.2, n, hn, h4⟩
theorem op_messages {h : xH} (g : LG h) {J : Int32 → Int32 → xH → Prop} (hJ : Ends2 J) : w_X5_messages h (fun a h1 => w_X6_messages h1 (fun b h2 => J a b h2)) := by
  rintro h1 rfl
  refine fin_2 hJ g ?_
  rw [xup_ne (Or.inr (by decide)), (LG_RL g).1.1]
-- the ledger
theorem C_has {p : Int32} {h : xH} {n : Nat} (hn : h 6 2 = nI n) (h4 : n ≤ 400) {K : Int32 → xH → Prop} (h1 : ∀ j, j < n → p = nI j → K 1 h) (h0 : (∀ j, j < n → ¬ p = nI j) → K 0 h) : w_X1_has p h K := by
  refine ⟨fun c => h0 (fun j hj e => ?_), fun c => ⟨fun c2 => h0 (fun j hj e => ?_), fun c2 => ?_⟩⟩
  · rw [e] at c; exact nI_pos (by omega) c
  · rw [e, hn] at c2; exact absurd c2 (nI_ge hj (by omega))
  · obtain ⟨j, hj, e⟩ := nI_of c
    refine h1 j ?_ e
    rw [e, hn] at c2
    rcases Nat.lt_or_ge j n with q | q
    · exact q
    · exact absurd (nI_le q hj) c2
theorem M_isMessage {p : Int32} {m : xH} {n : Nat} (hn : m 60 31 = nI n) (h4 : n ≤ 400) {K : Int32 → xH → Prop} (h1 : ∀ j, j < n → p = nI j → K 1 (xup m 60 0 0)) (h0 : (∀ j, j < n → ¬ p = nI j) → K 0 (xup m 60 0 1)) : w_X6_isMessage p m K := by
  have no : (∀ j, j < n → ¬ p = nI j) → w_X6_isMessage_17 p K 60 m := by
    intro q
    unfold w_X6_isMessage_17 w_X6_isMessage_18
    exact M_h1 ⟨by decide +kernel, h0 q⟩
  refine ⟨fun c => no (fun j hj e => ?_), fun c => ⟨fun c2 => no (fun j hj e => ?_), fun c2 => ?_⟩⟩
  · rw [e] at c; exact nI_pos (by omega) c
  · rw [e, hn] at c2; exact absurd c2 (nI_ge hj (by omega))
  · obtain ⟨j, hj, e⟩ := nI_of c
    refine M_h0 ⟨by decide +kernel, h1 j ?_ e⟩
    rw [e, hn] at c2
    rcases Nat.lt_or_ge j n with q | q
    · exact q
    · exact absurd (nI_le q hj) c2
theorem C_ldAt {j : Nat} (hj : j < 400) {A B : Prop} (hB : B) : (nI j < 0 → A) ∧ (¬ nI j < 0 → ((400 : Int32) ≤ nI j → A) ∧ (¬ (400 : Int32) ≤ nI j → vp_in (nI j) 400 ∧ B)) :=
  ⟨fun c => absurd c (nI_pos (by omega)), fun _ => ⟨fun c => absurd c (nI_ge hj (by decide)), fun _ => ⟨vp_in_nI hj (by decide), hB⟩⟩⟩
theorem op_fateOf {h : xH} (g : LG h) {p0 : Int32} {J : Int32 → Int32 → xH → Prop} (hJ : Ends3 J) : w_L_fateOf p0 h (fun k h1 => w_X6_fateOf p0 h1 (fun b h2 => J k b h2)) := by
  unfold w_L_fateOf w_X5_fateOf
  obtain ⟨rl, n, hn, h4⟩ := LG_RL g
  have e62 : h 6 2 = nI n := by rw [rl.1]; exact hn
  refine C_has e62 h4 (fun j hj e => T1 ?_) (fun hno => T0 ⟨rfl, M_isMessage hn h4 (fun j hj e => absurd e (hno j hj)) (fun _ => T0 (fin_x hJ g (by decide)))⟩)
  subst e
  refine C_ldAt (by omega) ?_
  rintro h3 rfl
  refine M_isMessage (n := n) (by rw [xup_row (by decide)]; exact hn) h4 (fun j' hj' e' => T1 ?_) (fun hno => absurd rfl (hno j hj))
  rw [nI_clamp (by omega)]
  refine ⟨vp_in_nI (by omega) (by decide), fin_r hJ g ?_⟩
  rw [xup_row (by decide), xup_row (by decide)]
  exact (rl.2 j (by rw [hn, nI_clamp (by omega)]; exact hj)).1
theorem op_targetsOf {h : xH} (g : LG h) {p0 : Int32} {J : Int32 → Int32 → xH → Prop} (hJ : Ends3 J) : w_L_targetsOf p0 h (fun k h1 => w_X6_targetsOf p0 h1 (fun b h2 => J k b h2)) := by
  unfold w_L_targetsOf w_X5_targetsOf
  obtain ⟨rl, n, hn, h4⟩ := LG_RL g
  have e62 : h 6 2 = nI n := by rw [rl.1]; exact hn
  refine C_has e62 h4 (fun j hj e => T1 ?_) (fun hno => T0 ⟨rfl, M_isMessage hn h4 (fun j hj e => absurd e (hno j hj)) (fun _ => T0 (fin_x hJ g (by decide)))⟩)
  subst e
  refine C_ldAt (by omega) ?_
  rintro h3 rfl
  refine M_isMessage (n := n) (by rw [xup_row (by decide)]; exact hn) h4 (fun j' hj' e' => T1 ?_) (fun hno => absurd rfl (hno j hj))
  rw [nI_clamp (by omega)]
  refine ⟨vp_in_nI (by omega) (by decide), fin_r hJ g ?_⟩
  rw [xup_row (by decide), xup_row (by decide)]
  exact (rl.2 j (by rw [hn, nI_clamp (by omega)]; exact hj)).2
def ledN (p : Int32) (r : Nat → Int32) : Nat → Int32
  | 0 => 0
  | n + 1 => if r n = p then ledN p r n + 1 else ledN p r n
theorem ledN_congr {p : Int32} {r r' : Nat → Int32} : ∀ n, (∀ j, j < n → r j = r' j) → ledN p r n = ledN p r' n := by
  intro n
  induction n with
  | zero => intro _; rfl
  | succ n ih =>
    intro hr
    simp only [ledN, hr n (by omega), ih (fun j hj => hr j (by omega))]
theorem C_entriesWith {p : Int32} {h : xH} {n : Nat} (hn : h 6 2 = nI n) (h4 : n ≤ 400) {K : Int32 → xH → Prop} (hK : K (ledN p (h 7) n) h) : w_X1_entriesWith p h K := by
  have loop : ∀ d i, i + d = n → w_X1_entriesWith_4 p K (d + 1) (ledN p (h 7) i) (nI i) h := by
    intro d
    induction d with
    | zero =>
      intro i hi
      have e : i = n := by omega
      subst e
      rw [w_X1_entriesWith_4_s, hn]
      exact ⟨fun _ => hK, fun c => absurd (nI_le (Nat.le_refl i) (by omega)) c⟩
    | succ d ih =>
      intro i hi
      have nx := ih (i + 1) (by omega)
      rw [show ledN p (h 7) (i + 1) = if h 7 i = p then ledN p (h 7) i + 1 else ledN p (h 7) i from rfl] at nx
      rw [w_X1_entriesWith_4_s, hn, nI_clamp (by omega)]
      refine ⟨fun c => absurd c (nI_ge (show i < n by omega) (by omega)), fun _ => ⟨fun c => absurd c (nI_ge (show i < 400 by omega) (by decide)), fun _ => ⟨vp_in_nI (show i < 400 by omega) (by decide), fun c => ?_, fun c => ?_⟩⟩⟩
      · rintro x5 rfl x6 rfl
        rw [if_pos c] at nx
        rw [nI_1]; exact nx
      · rintro x6 rfl
        rw [if_neg c] at nx
        rw [nI_1]; exact nx
  exact ⟨n + 1, loop n 0 (by omega)⟩
theorem M_count {p : Int32} {m : xH} {n : Nat} (hn : m 60 31 = nI n) (h4 : n ≤ 400) {K : Int32 → xH → Prop} (hK : K (ledN p (m 92) n) m) : ∃ d : Nat, w_X6_count_27 p K d 0 0 m := by
  have loop : ∀ d i, i + d = n → w_X6_count_27 p K (d + 1) (ledN p (m 92) i) (nI i) m := by
    intro d
    induction d with
    | zero =>
      intro i hi
      have e : i = n := by omega
      subst e
      rw [w_X6_count_27_s, hn]
      exact ⟨fun _ => hK, fun c => absurd (nI_le (Nat.le_refl i) (by omega)) c⟩
    | succ d ih =>
      intro i hi
      have nx := ih (i + 1) (by omega)
      rw [show ledN p (m 92) (i + 1) = if m 92 i = p then ledN p (m 92) i + 1 else ledN p (m 92) i from rfl] at nx
      rw [w_X6_count_27_s, hn, nI_clamp (by omega)]
      refine ⟨fun c => absurd c (nI_ge (show i < n by omega) (by omega)), fun _ => ⟨vp_in_nI (show i < 400 by omega) (by decide), fun c => ?_, fun c => ?_⟩⟩
      · rintro x5 rfl x6 rfl
        rw [if_pos c] at nx
        rw [nI_1]; exact nx
      · rintro x5 rfl x6 rfl
        rw [if_neg c] at nx
        rw [nI_1, Int32.add_zero]; exact nx
  exact ⟨n + 1, loop n 0 (by omega)⟩
theorem op_count {h : xH} (g : LG h) {p0 : Int32} {J : Int32 → Int32 → xH → Prop} (hJ : Ends3 J) : w_L_count p0 h (fun k h1 => w_X6_count p0 h1 (fun b h2 => J k b h2)) := by
  unfold w_L_count w_X5_count
  obtain ⟨rl, n, hn, h4⟩ := LG_RL g
  have e62 : h 6 2 = nI n := by rw [rl.1]; exact hn
  refine C_rng 0 3 (by decide) (by decide) (fun j hj1 hj2 e => T1 ?_) (fun hno => T0 ⟨rfl, M_rng 0 3 (by decide) (by decide) (fun j h1 h2 e => absurd e (hno j h1 h2)) (fun _ => T0 (M_h1 (T0 (fin_x hJ g (by decide)))))⟩)
  refine C_entriesWith e62 h4 ?_
  rintro h3 rfl
  refine M_rng 0 3 (by decide) (by decide) (fun j' h1 h2 e' => T1 (M_h0 (T1 ?_))) (fun hno => absurd e (hno j hj1 hj2))
  refine M_count (n := n) (by rw [xup_ne (Or.inr (by decide)), xup_row (by decide)]; exact hn) h4 (fin_r hJ g ?_)
  rw [xup_row (by decide), xup_row (by decide)]
  exact ledN_congr n (fun j hj => (rl.2 j (by rw [hn, nI_clamp (by omega)]; exact hj)).1)
