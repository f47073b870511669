/-! THE INVARIANT, I: files, the forwarder, bits -/
theorem BT {c A B : Prop} (h : c) (k : A) : (c → A) ∧ (¬ c → B) := ⟨fun _ => k, fun q => absurd h q⟩
theorem BF {c A B : Prop} (h : ¬ c) (k : B) : (c → A) ∧ (¬ c → B) := ⟨fun q => absurd q h, fun _ => k⟩
def lenW (G : Nat → Int32) (w : Nat) : Int32 := if 100000 ≤ w then 20 else if 10000 ≤ w then 15 else G w
def lsum (G : Nat → Int32) (w : Nat → Nat) (a : Nat) : Nat → Int32
  | 0 => 0
  | k + 1 => lsum G w a k + lenW G (w (a + k))
theorem lsum_c {G G' : Nat → Int32} {w w' : Nat → Nat} {a : Nat} : ∀ k, (∀ i, i < k → lenW G (w (a + i)) = lenW G' (w' (a + i))) → lsum G w a k = lsum G' w' a k := by
  intro k
  induction k with
  | zero => intro _; rfl
  | succ k ih =>
    intro h
    show lsum G w a k + lenW G (w (a + k)) = lsum G' w' a k + lenW G' (w' (a + k))
    rw [ih (fun i hi => h i (by omega)), h k (by omega)]
/-- a file by its fields F, its row R, its starts S: n messages have come, no more than N lines, T: the messages that went there, kp generations are kept -/
def FX (n N : Nat) (G : Nat → Int32) (T : Nat → Prop) (kp : Nat) (F R S : Nat → Int32) (e og : Nat) (st w : Nat → Nat) : Prop :=
  (F 2 = nI e ∧ F 5 = nI kp ∧ F 8 = nI og ∧ F 7 = lsum G w (st 0) (e - st 0)) ∧ (∀ j, j < 6 → S j = nI (st j)) ∧ (∀ i, i < e → R i = nI (w i)) ∧ (st 0 ≤ e ∧ og ≤ kp ∧ kp ≤ 5 ∧ e ≤ N) ∧ (∀ j, j < 5 → st (j + 1) ≤ st j) ∧ (∀ j, j < og → st (j + 1) < st j) ∧ (∀ i, i < e → (w i < n ∧ T (w i)) ∨ (10000 ≤ w i ∧ w i < 2 ^ 31)) ∧ (∀ i i', i < i' → i' < e → w i < 10000 → w i' < 10000 → w i < w i')
def FI (n N : Nat) (G : Nat → Int32) (T : Nat → Prop) (kp : Nat) (F R S : Nat → Int32) : Prop := ∃ (e og : Nat) (st w : Nat → Nat), FX n N G T kp F R S e og st w
theorem FI_c {n N kp : Nat} {G : Nat → Int32} {T : Nat → Prop} {F F' R S : Nat → Int32} (h : FI n N G T kp F R S) (h2 : F' 2 = F 2) (h5 : F' 5 = F 5) (h7 : F' 7 = F 7) (h8 : F' 8 = F 8) : FI n N G T kp F' R S := by
  obtain ⟨e, og, st, w, ⟨a, b, c, d⟩, q⟩ := h
  exact ⟨e, og, st, w, ⟨h2.trans a, h5.trans b, h8.trans c, h7.trans d⟩, q⟩
theorem FX_m {n N n' N' kp e og : Nat} {G G' : Nat → Int32} {T T' : Nat → Prop} {F R S : Nat → Int32} {st w : Nat → Nat} (h : FX n N G T kp F R S e og st w) (hn : n ≤ n') (hN : N ≤ N') (hn0 : n ≤ 10000) (hT : ∀ w, w < n → T w → T' w) (hG : ∀ w, w < n → G' w = G w) : FX n' N' G' T' kp F R S e og st w := by
  obtain ⟨⟨a, b, c, d⟩, q1, q2, ⟨r1, r2, r3, r4⟩, q3, q4, q5, q6⟩ := h
  refine ⟨⟨a, b, c, ?_⟩, q1, q2, ⟨r1, r2, r3, by omega⟩, q3, q4, fun i hi => ?_, q6⟩
  · rw [d]
    refine lsum_c _ (fun i hi => ?_)
    have h5 := q5 (st 0 + i) (by omega)
    unfold lenW
    rcases h5 with ⟨z, -⟩ | ⟨z, -⟩
    · rw [if_neg (by omega), if_neg (by omega), if_neg (by omega), if_neg (by omega), hG _ z]
    · by_cases y : 100000 ≤ w (st 0 + i)
      · rw [if_pos y, if_pos y]
      · rw [if_neg y, if_neg y, if_pos z, if_pos z]
  · rcases q5 i hi with ⟨z, zz⟩ | z
    · exact Or.inl ⟨by omega, hT _ z zz⟩
    · exact Or.inr z
theorem FI_m {n N n' N' kp : Nat} {G G' : Nat → Int32} {T T' : Nat → Prop} {F R S : Nat → Int32} (h : FI n N G T kp F R S) (hn : n ≤ n') (hN : N ≤ N') (hn0 : n ≤ 10000) (hT : ∀ w, w < n → T w → T' w) (hG : ∀ w, w < n → G' w = G w) : FI n' N' G' T' kp F R S := by
  obtain ⟨e, og, st, w, q⟩ := h
  exact ⟨e, og, st, w, FX_m q hn hN hn0 hT hG⟩
theorem cRot_F {k : Nat} {h : xH} (b : Nat) : cRot k h k b = (if b = 7 then 0 else if b = 9 then h k 9 + 1 else if b = 8 then (if h k 5 ≤ h k 8 then h k 8 else h k 8 + 1) else h k b) := by
  unfold cRot
  rw [if_neg (by omega), if_pos rfl]
theorem cRot_S {k : Nat} {h : xH} (b : Nat) : cRot k h (k + 20) b = (if b = 0 then h k 2 else if b ≤ 5 then h (k + 20) (b - 1) else h (k + 20) b) := by
  unfold cRot
  rw [if_pos rfl]
theorem FI_rot {n N kp : Nat} {G : Nat → Int32} {T : Nat → Prop} {h : xH} {k : Nat} (hN : N ≤ 400) (hne : ¬ h k 2 = h (k + 20) 0) (q : FI n N G T kp (h k) (h (k + 10)) (h (k + 20))) : FI n N G T kp (cRot k h k) (cRot k h (k + 10)) (cRot k h (k + 20)) := by
  obtain ⟨e, og, st, w, ⟨a, b, c, d⟩, q1, q2, ⟨r1, r2, r3, r4⟩, q3, q4, q5, q6⟩ := q
  have hlt : st 0 < e := by
    rcases Nat.lt_or_ge (st 0) e with z | z
    · exact z
    · exfalso
      apply hne
      rw [a, q1 0 (by decide), show e = st 0 by omega]
  refine ⟨e, if kp ≤ og then og else og + 1, fun j => if j = 0 then e else st (j - 1), w, ⟨?_, ?_, ?_, ?_⟩, fun j hj => ?_, ?_, ⟨Nat.le_refl _, ?_, r3, r4⟩, fun j hj => ?_, fun j hj => ?_, q5, q6⟩
  · rw [cRot_F, if_neg (by decide), if_neg (by decide), if_neg (by decide)]; exact a
  · rw [cRot_F, if_neg (by decide), if_neg (by decide), if_neg (by decide)]; exact b
  · rw [cRot_F, if_neg (by decide), if_neg (by decide), if_pos rfl, b, c]
    by_cases z : kp ≤ og
    · rw [if_pos z, if_pos (nI_le z (by omega))]
    · rw [if_neg z, if_neg (nI_ge (by omega) (by omega)), nI_1]
  · rw [cRot_F, if_pos rfl]
    show (0 : Int32) = lsum G w e (e - e)
    rw [Nat.sub_self]; rfl
  · rw [cRot_S]
    by_cases z : j = 0
    · rw [if_pos z]; dsimp only; rw [if_pos z]; exact a
    · rw [if_neg z, if_pos (by omega)]; dsimp only; rw [if_neg z]; exact q1 _ (by omega)
  · rw [cRot_o (by omega) (by omega)]; exact q2
  · split <;> omega
  · dsimp only
    rw [if_neg (by omega), show j + 1 - 1 = j by omega]
    by_cases z : j = 0
    · rw [if_pos z, z]; exact r1
    · rw [if_neg z]
      have := q3 (j - 1) (by omega)
      rwa [show j - 1 + 1 = j by omega] at this
  · dsimp only
    rw [if_neg (by omega), show j + 1 - 1 = j by omega]
    by_cases z : j = 0
    · rw [if_pos z, z]; exact hlt
    · rw [if_neg z]
      have hj2 : j - 1 < og := by split at hj <;> omega
      have := q4 (j - 1) hj2
      rwa [show j - 1 + 1 = j by omega] at this
/-- the last line of a file is l -/
def LL (l : Nat) (F R S : Nat → Int32) : Prop := ∃ e s0 : Nat, F 2 = nI (e + 1) ∧ S 0 = nI s0 ∧ s0 ≤ e ∧ e < 400 ∧ R e = nI l
theorem FI_put {n N n' kp : Nat} {G G' : Nat → Int32} {T T' : Nat → Prop} {h : xH} {k l : Nat} {len : Int32} (hN : N ≤ 399) (hn : n ≤ n') (hn0 : n' ≤ 10000) (hT : ∀ w, w < n → T w → T' w) (hG : ∀ w, w < n → G' w = G w) (hl : (n ≤ l ∧ l < n' ∧ T' l) ∨ (10000 ≤ l ∧ l < 2 ^ 31)) (hlen : lenW G' l = len) (q : FI n N G T kp (h k) (h (k + 10)) (h (k + 20))) : FI n' (N + 1) G' T' kp (cPut k (nI l) len h k) (cPut k (nI l) len h (k + 10)) (cPut k (nI l) len h (k + 20)) ∧ LL l (cPut k (nI l) len h k) (cPut k (nI l) len h (k + 10)) (cPut k (nI l) len h (k + 20)) := by
  obtain ⟨e, og, st, w, q⟩ := q
  have q' := FX_m (n' := n') (N' := N + 1) (G' := G') (T' := T') q hn (by omega) (by omega) hT hG
  obtain ⟨-, -, -, ⟨-, -, -, r4⟩, -, -, q50, -⟩ := q
  obtain ⟨⟨a, b, c, d⟩, q1, q2, ⟨r1, r2, r3, -⟩, q3, q4, q5, q6⟩ := q'
  have ee : cPut k (nI l) len h = xup (xup (xup h (k + 10) e (nI l)) k 2 (nI e + 1)) k 7 (h k 7 + len) := by
    unfold cPut
    rw [a, nI_clamp (by omega), if_neg]
    intro z
    rcases z with z | z
    · exact nI_pos (by omega) z
    · exact nI_ge (show e < 400 by omega) (by decide) z
  have eR : ∀ i, cPut k (nI l) len h (k + 10) i = if i = e then nI l else h (k + 10) i := by
    intro i
    rw [ee, xup_row (by omega), xup_row (by omega)]
    by_cases z : i = e
    · rw [z, xup_same, if_pos rfl]
    · rw [xup_ne (Or.inr z), if_neg z]
  have eS : cPut k (nI l) len h (k + 20) = h (k + 20) := by
    rw [ee, xup_row (by omega), xup_row (by omega), xup_row (by omega)]
  have e2 : cPut k (nI l) len h k 2 = nI (e + 1) := by
    rw [ee, xup_ne (Or.inr (by decide)), xup_same, nI_1]
  have eo : ∀ j, j ≠ 2 → j ≠ 7 → cPut k (nI l) len h k j = h k j := by
    intro j h2 h7
    rw [ee, xup_ne (Or.inr h7), xup_ne (Or.inr h2), xup_ne (Or.inl (by omega))]
  refine ⟨⟨e + 1, og, st, fun i => if i = e then l else w i, ⟨e2, ?_, ?_, ?_⟩, ?_, fun i hi => ?_, ⟨by omega, r2, r3, by omega⟩, q3, q4, fun i hi => ?_, fun i i' hi hi' => ?_⟩, ⟨e, st 0, e2, ?_, r1, by omega, ?_⟩⟩
  · rw [eo 5 (by decide) (by decide)]; exact b
  · rw [eo 8 (by decide) (by decide)]; exact c
  · have e7 : cPut k (nI l) len h k 7 = h k 7 + len := by rw [ee, xup_same]
    rw [e7, d, show e + 1 - st 0 = (e - st 0) + 1 by omega]
    show _ = lsum G' (fun i => if i = e then l else w i) (st 0) (e - st 0) + lenW G' (if st 0 + (e - st 0) = e then l else w (st 0 + (e - st 0)))
    rw [if_pos (by omega), hlen]
    congr 1
    refine lsum_c _ (fun i hi => ?_)
    rw [if_neg (by omega)]
  · rw [eS]; exact q1
  · rw [eR]
    dsimp only
    by_cases z : i = e
    · rw [if_pos z, if_pos z]
    · rw [if_neg z, if_neg z]; exact q2 i (by omega)
  · dsimp only
    by_cases z : i = e
    · rw [if_pos z]
      rcases hl with ⟨-, y1, y2⟩ | y
      · exact Or.inl ⟨y1, y2⟩
      · exact Or.inr y
    · rw [if_neg z]; exact q5 i (by omega)
  · dsimp only
    rw [if_neg (show ¬ i = e by omega)]
    by_cases z : i' = e
    · rw [if_pos z]
      intro h1 h2
      rcases hl with ⟨y0, -, -⟩ | ⟨y0, -⟩
      · rcases q50 i (by omega) with ⟨x0, -⟩ | ⟨x0, -⟩
        · omega
        · omega
      · omega
    · rw [if_neg z]; exact q6 i i' hi (by omega)
  · rw [eS]; exact q1 0 (by decide)
  · rw [eR, if_pos rfl]
theorem FI_add {n N n' kp : Nat} {G G' : Nat → Int32} {T T' : Nat → Prop} {h : xH} {k l : Nat} {len now : Int32} (hN : N ≤ 399) (hn : n ≤ n') (hn0 : n' ≤ 10000) (hT : ∀ w, w < n → T w → T' w) (hG : ∀ w, w < n → G' w = G w) (hl : (n ≤ l ∧ l < n' ∧ T' l) ∨ (10000 ≤ l ∧ l < 2 ^ 31)) (hlen : lenW G' l = len) (q : FI n N G T kp (h k) (h (k + 10)) (h (k + 20))) : FI n' (N + 1) G' T' kp (cAdd k (nI l) len now h k) (cAdd k (nI l) len now h (k + 10)) (cAdd k (nI l) len now h (k + 20)) ∧ LL l (cAdd k (nI l) len now h k) (cAdd k (nI l) len now h (k + 10)) (cAdd k (nI l) len now h (k + 20)) := by
  unfold cAdd
  have q1 : FI n N G T kp (cAddR k len h k) (cAddR k len h (k + 10)) (cAddR k len h (k + 20)) := by
    unfold cAddR
    split
    · exact q
    · rename_i c
      exact FI_rot (by omega) (fun z => c (Or.inl z)) q
  generalize cAddR k len h = g at q1 ⊢
  have q2 : FI n N G T kp (cAddF k now g k) (cAddF k now g (k + 10)) (cAddF k now g (k + 20)) := by
    unfold cAddF
    split
    · rw [xup_row (show k + 10 ≠ k by omega), xup_row (show k + 20 ≠ k by omega)]
      exact FI_c q1 (xup_ne (Or.inr (by decide))) (xup_ne (Or.inr (by decide))) (xup_ne (Or.inr (by decide))) (xup_ne (Or.inr (by decide)))
    · exact q1
  exact FI_put hN hn hn0 hT hG hl hlen q2
/-- the forwarder by its fields W and its row R: no more than N lines came, at least V, connected: cf -/
def WI (N V : Nat) (cf : Int32) (W R : Nat → Int32) : Prop := ∃ e q a l : Nat, (W 1 = nI e ∧ W 2 = nI q ∧ W 3 = nI a ∧ W 4 = nI l ∧ W 5 = cf) ∧ (a ≤ q ∧ q ≤ e ∧ q ≤ a + 5 ∧ e ≤ a + 30 ∧ e + l ≤ N ∧ V ≤ e + l) ∧ (∀ i, i < e → ¬ R i < 0) ∧ (cf = 0 ∨ cf = 1) ∧ (cf = 0 → q = a)
theorem WI_m {N V N' V' : Nat} {cf : Int32} {W R : Nat → Int32} (h : WI N V cf W R) (hN : N ≤ N') (hV : V' ≤ V) : WI N' V' cf W R := by
  obtain ⟨e, q, a, l, x, ⟨y1, y2, y3, y4, y5, y6⟩, z⟩ := h
  exact ⟨e, q, a, l, x, ⟨y1, y2, y3, y4, by omega, by omega⟩, z⟩
theorem WI_take {N V : Nat} {cf line : Int32} {h : xH} (hl : ¬ line < 0) (hN : N ≤ 399) (q : WI N V cf (h 4) (h 5)) : WI (N + 1) (V + 1) cf (cTake line h 4) (cTake line h 5) := by
  obtain ⟨e, q, a, l, ⟨x1, x2, x3, x4, x5⟩, ⟨y1, y2, y3, y4, y5, y6⟩, z1, z2, z3⟩ := q
  have hs : h 4 1 - h 4 3 = nI (e - a) := by rw [x1, x3]; exact pk_sub (by omega)
  by_cases c : 30 ≤ e - a
  · have ee : cTake line h = xup h 4 4 (h 4 4 + 1) := by
      unfold cTake
      rw [hs, if_pos (Or.inl (show (30 : Int32) ≤ nI (e - a) from nI_le c (by omega)))]
    rw [ee, xup_row (show (5 : Nat) ≠ 4 by decide)]
    exact ⟨e, q, a, l + 1, ⟨by rw [xup_ne (Or.inr (by decide))]; exact x1, by rw [xup_ne (Or.inr (by decide))]; exact x2, by rw [xup_ne (Or.inr (by decide))]; exact x3, by rw [xup_same, x4, nI_1], by rw [xup_ne (Or.inr (by decide))]; exact x5⟩, ⟨y1, y2, y3, y4, by omega, by omega⟩, z1, z2, z3⟩
  · have ee : cTake line h = xup (xup h 5 e line) 4 1 (nI e + 1) := by
      unfold cTake
      rw [hs, x1, nI_clamp (by omega), if_neg]
      intro w
      rcases w with w | w | w
      · exact nI_ge (show e - a < 30 by omega) (by decide) w
      · exact nI_pos (by omega) w
      · exact nI_ge (show e < 400 by omega) (by decide) w
    have eo : ∀ j, j ≠ 1 → cTake line h 4 j = h 4 j := fun j hj => by rw [ee, xup_ne (Or.inr hj), xup_ne (Or.inl (by decide))]
    refine ⟨e + 1, q, a, l, ⟨by rw [ee, xup_same, nI_1], by rw [eo 2 (by decide)]; exact x2, by rw [eo 3 (by decide)]; exact x3, by rw [eo 4 (by decide)]; exact x4, by rw [eo 5 (by decide)]; exact x5⟩, ⟨y1, by omega, y3, by omega, by omega, by omega⟩, fun i hi => ?_, z2, z3⟩
    rw [ee, xup_row (show (5 : Nat) ≠ 4 by decide)]
    by_cases w : i = e
    · rw [w, xup_same]; exact hl
    · rw [xup_ne (Or.inr w)]; exact z1 i (by omega)
-- rotations
theorem xs_add {t : Nat} {line len now : Int32} {g : xH} (ht : t < 4) : ∃ d, d ≤ 1 ∧ xsum (cAdd (30 + t) line len now g) = xsum g + nI d := by
  have p1 : ∀ g : xH, xsum (cPut (30 + t) line len g) = xsum g := fun g => xsum_fr (fun k h1 h2 => by
    unfold cPut
    split
    · rfl
    · rw [xup_ne (Or.inr (by decide)), xup_ne (Or.inr (by decide)), xup_ne (Or.inl (by omega))])
  have p2 : ∀ g : xH, xsum (cAddF (30 + t) now g) = xsum g := fun g => xsum_fr (fun k h1 h2 => by
    unfold cAddF
    split
    · rw [xup_ne (Or.inr (by decide))]
    · rfl)
  unfold cAdd
  rw [p1, p2]
  unfold cAddR
  split
  · exact ⟨0, by decide, by rw [nI_0, Int32.add_zero]⟩
  · exact ⟨1, by decide, xsum_rot ht⟩
theorem xs_take {line : Int32} {g : xH} : xsum (cTake line g) = xsum g := xsum_fr (fun k h1 h2 => by rw [cTake_o (by omega) (by omega)])
theorem xs_tr {a b c : Int32} {d d' : Nat} (h1 : b = a + nI d) (h2 : c = b + nI d') : c = a + nI (d + d') := by
  rw [h2, h1, Int32.add_assoc, nI_add]
def RI (h : xH) : Prop := ∀ r, r < 6 → ∃ t : Nat, t ≤ 4 ∧ h (20 + r) 4 = nI t
theorem go_gen {s f v line len : Int32} {h : xH} (hr : RI h) {P Q : Nat → (Nat → Int32) → (Nat → Int32) → (Nat → Int32) → Prop} {PW QW : (Nat → Int32) → (Nat → Int32) → Prop}
    (hA : ∀ t, t < 4 → ∀ g : xH, g 101 = h 101 → P t (g (30 + t)) (g (30 + t + 10)) (g (30 + t + 20)) → Q t (cAdd (30 + t) line len (g 0 5) g (30 + t)) (cAdd (30 + t) line len (g 0 5) g (30 + t + 10)) (cAdd (30 + t) line len (g 0 5) g (30 + t + 20)))
    (hT : ∀ g : xH, PW (g 4) (g 5) → QW (cTake line g 4) (cTake line g 5))
    (hP : ∀ t, t < 4 → P t (h (30 + t)) (h (30 + t + 10)) (h (30 + t + 20))) (hW : PW (h 4) (h 5)) :
    ∀ n, n ≤ 6 → (∀ t, t < 4 → if bt (cGo s f v line len n (0, h)).1 t = true then Q t ((cGo s f v line len n (0, h)).2 (30 + t)) ((cGo s f v line len n (0, h)).2 (30 + t + 10)) ((cGo s f v line len n (0, h)).2 (30 + t + 20)) else P t ((cGo s f v line len n (0, h)).2 (30 + t)) ((cGo s f v line len n (0, h)).2 (30 + t + 10)) ((cGo s f v line len n (0, h)).2 (30 + t + 20))) ∧
      (if bt (cGo s f v line len n (0, h)).1 4 = true then QW ((cGo s f v line len n (0, h)).2 4) ((cGo s f v line len n (0, h)).2 5) else PW ((cGo s f v line len n (0, h)).2 4) ((cGo s f v line len n (0, h)).2 5)) ∧
      (∀ i, 5 ≤ i → i < 32 → bt (cGo s f v line len n (0, h)).1 i = false) ∧ ∃ d, d ≤ n ∧ xsum (cGo s f v line len n (0, h)).2 = xsum h + nI d := by
  intro n
  induction n with
  | zero =>
    intro _
    refine ⟨fun t ht => ?_, ?_, fun i _ _ => b_0 i, 0, Nat.le_refl 0, ?_⟩
    · show if bt 0 t = true then _ else _
      rw [b_0, if_neg (by decide)]; exact hP t ht
    · show if bt 0 4 = true then _ else _
      rw [b_0, if_neg (by decide)]; exact hW
    · show xsum h = xsum h + nI 0
      rw [nI_0, Int32.add_zero]
  | succ n ih =>
    intro hn
    obtain ⟨i1, i2, i3, d, hd, i4⟩ := ih (by omega)
    have hrow : (cGo s f v line len n (0, h)).2 (20 + n) = h (20 + n) := cGo_o (by omega) (by omega) (Or.inl (by omega)) n
    have h101 : (cGo s f v line len n (0, h)).2 101 = h 101 := cGo_o (by omega) (by omega) (Or.inr (by omega)) n
    obtain ⟨t, ht, et⟩ := hr n (by omega)
    rw [show cGo s f v line len (n + 1) (0, h) = cStep s f v line len n (cGo s f v line len n (0, h)) from rfl]
    generalize cGo s f v line len n (0, h) = p at i1 i2 i3 i4 hrow h101 ⊢
    obtain ⟨st, g⟩ := p
    dsimp only at i1 i2 i3 i4 hrow h101 ⊢
    have et' : g (20 + n) 4 = nI t := by rw [hrow]; exact et
    by_cases hc : ¬ ((st >>> (g (20 + n) 4 &&& 31)) &&& 1) = 1 ∧ cFits s f v n g
    · have hb : ¬ bt st t = true := by
        have := hc.1
        rw [hrow, et, bit_o st (by omega)] at this
        exact this
      by_cases e4 : t = 4
      · subst e4
        have e : cStep s f v line len n (st, g) = (st ||| ((1 : Int32) <<< (nI 4 &&& 31)), cTake line g) := by
          unfold cStep
          dsimp only
          rw [if_pos hc, if_pos (show g (20 + n) 4 < 0 ∨ 4 ≤ g (20 + n) 4 from Or.inr (by rw [et']; exact nI_le (Nat.le_refl 4) (by decide))), et']
        rw [e]
        dsimp only
        refine ⟨fun t' ht' => ?_, ?_, fun i h1 h2 => ?_, d, by omega, by rw [xs_take]; exact i4⟩
        · rw [bit_set st (by decide) (by omega), decide_eq_false (show ¬ t' = 4 by omega), Bool.or_false, cTake_o (by omega) (by omega), cTake_o (by omega) (by omega), cTake_o (by omega) (by omega)]
          exact i1 t' ht'
        · rw [bit_set st (by decide) (by decide), decide_eq_true rfl, Bool.or_true, if_pos rfl]
          rw [if_neg hb] at i2
          exact hT g i2
        · rw [bit_set st (by decide) h2, decide_eq_false (show ¬ i = 4 by omega), Bool.or_false]
          exact i3 i h1 h2
      · have ht4 : t < 4 := by omega
        have e : cStep s f v line len n (st, g) = (st ||| ((1 : Int32) <<< (nI t &&& 31)), cAdd (30 + t) line len (g 0 5) g) := by
          unfold cStep
          dsimp only
          have c4 : ¬ (g (20 + n) 4 < 0 ∨ 4 ≤ g (20 + n) 4) := by
            rw [et']
            intro z
            rcases z with z | z
            · exact nI_pos (by omega) z
            · exact nI_ge ht4 (by decide) z
          rw [if_pos hc, if_neg c4, et', nI_clamp (by omega)]
        rw [e]
        dsimp only
        obtain ⟨d', hd', x'⟩ := xs_add (t := t) (line := line) (len := len) (now := g 0 5) (g := g) ht4
        refine ⟨fun t' ht' => ?_, ?_, fun i h1 h2 => ?_, d + d', by omega, xs_tr i4 x'⟩
        · rw [bit_set st (by omega) (by omega)]
          by_cases et' : t' = t
          · subst et'
            rw [decide_eq_true rfl, Bool.or_true, if_pos rfl]
            have q := i1 t' ht'
            rw [if_neg hb] at q
            exact hA t' ht' g h101 q
          · rw [decide_eq_false et', Bool.or_false, cAdd_o (by omega) (by omega) (by omega), cAdd_o (by omega) (by omega) (by omega), cAdd_o (by omega) (by omega) (by omega)]
            exact i1 t' ht'
        · rw [bit_set st (by omega) (by decide), decide_eq_false (show ¬ 4 = t by omega), Bool.or_false, cAdd_o (by omega) (by omega) (by omega), cAdd_o (by omega) (by omega) (by omega)]
          exact i2
        · rw [bit_set st (by omega) h2, decide_eq_false (show ¬ i = t by omega), Bool.or_false]
          exact i3 i h1 h2
    · have e : cStep s f v line len n (st, g) = (st, g) := by
        unfold cStep
        dsimp only
        rw [if_neg hc]
      rw [e]
      exact ⟨i1, i2, i3, d, by omega, i4⟩
