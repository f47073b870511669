/-! THE LAW LOOKS AT THE FILES -/
def enF (e : Nat) (st : Nat → Nat) (j : Nat) : Nat := match j with | 0 => e | j + 1 => st j
/-- what 'before' may be at row x -/
def BW (e : Nat) (w : Nat → Nat) (v : Int32) (x : Nat) : Prop := v = -1 ∨ ∃ y, y < x ∧ y < e ∧ w y < 10000 ∧ v = nI (w y)
theorem m1_nle {n : Nat} (h : n < 2 ^ 31) : ¬ nI n ≤ -1 := by
  intro z
  rw [Int32.le_iff_toInt_le] at z
  have h1 := nI_toInt (n := n) h
  have h2 : (-1 : Int32).toInt = -1 := by decide
  omega
theorem pq_m2 (j : Nat) : nI j + (-1) = pq j := by
  cases j with
  | zero => decide
  | succ j => exact pk_m1 j
theorem L_areFiles {T : Nat} {h : xH} {K : Int32 → xH → Prop} (i : IV T h) (hK : K 1 h) : w_L_areFiles h K := by
  obtain ⟨t, b, k, f, n, N, cf, kp, tk, r, fr, d, ht, ib, nm, cv⟩ := i
  have hn : n ≤ 60 := by obtain ⟨⟨-, -, -, -, -, -, -, z⟩, -⟩ := ib; exact z
  obtain ⟨hN, -, -⟩ := NM_N nm hn
  have e62 : h 6 2 = nI n := ib.2.2.1.1
  have file : ∀ q, q < 4 → ∀ R5 : Int32 → Int32 → xH → Prop, R5 1 (nI (q + 1)) h → w_X5_lines (nI q) ((-1) : Int32) h (fun r5 h6 => (∃ n : Nat, w_L_areFiles_30 K R5 n (nI q) (0) (r5) (0) h6)) := by
    intro q hq R5 hR
    obtain ⟨e, og, st, w, ⟨f1, f2, f3, f4⟩, f5, f6, ⟨f7, f8, f9, f10⟩, f11, f12, f13, f14⟩ := ib.2.2.2.2.1 q hq
    have hst : ∀ j, j < 6 → st j ≤ e := by
      intro j
      induction j with
      | zero => intro _; exact f7
      | succ j ih => intro hj; exact Nat.le_trans (f11 j (by omega)) (ih (by omega))
    have een : ∀ j, j < 6 → endC (30 + q) j h = nI (enF e st j) := by
      intro j hj
      cases j with
      | zero => exact f1
      | succ j => exact f5 j (by omega)
    have hen : ∀ j, j < 6 → st j ≤ enF e st j ∧ enF e st j ≤ e := by
      intro j hj
      cases j with
      | zero => exact ⟨f7, Nat.le_refl e⟩
      | succ j => exact ⟨f11 j (by omega), hst j (by omega)⟩
    have em : ∀ j, j < 6 → endC (30 + q) j h - h (30 + q + 20) j = nI (enF e st j - st j) := by
      intro j hj
      rw [een j hj, f5 j hj]
      exact pk_sub (hen j hj).1
    -- the parts, oldest first
    have p143 : ∀ j, j ≤ og → ∀ v7, BW e w v7 (st j) → w_L_areFiles_143 K R5 (j + 2) 1 (nI q) v7 (pq j) h := by
      intro j
      induction j with
      | zero =>
        intro hj v7 hv
        rw [w_L_areFiles_143_s]
        refine BF (pq_ge 0 (by decide)) (T1 (C_lns (j := 0) rfl rfl hq (Nat.zero_le _) (show og ≤ 5 by omega) f3 ?_))
        rw [em 0 (by decide)]
        have p183 : ∀ dd x, x + dd = enF e st 0 - st 0 → ∀ v7, BW e w v7 (st 0 + x) → w_L_areFiles_183 K R5 (w_L_areFiles_143 K R5 1) (dd + 1) 1 (nI q) v7 (pq 0) (nI (enF e st 0 - st 0)) (nI x) h := by
          intro dd
          induction dd with
          | zero =>
            intro x hx v7 hv
            rw [w_L_areFiles_183_s]
            refine BT (nI_le (by omega) (by have := hen 0 (by decide); omega)) ?_
            intro x34 e34
            rw [w_L_areFiles_143_s]
            refine BT (by rw [e34]; decide) ?_
            intro x32 e32
            rw [e32, nI_1]; exact hR
          | succ dd ih =>
            intro x hx v7 hv
            have hen0 := hen 0 (by decide)
            rw [w_L_areFiles_183_s]
            refine BF (nI_ge (by omega) (by omega)) (C_lin (j := 0) (i := x) (s := st 0) (m := enF e st 0 - st 0) rfl rfl rfl hq (Nat.zero_le _) (show og ≤ 5 by omega) f3 (em 0 (by decide)) (by omega) (by omega) (f5 0 (by decide)) (by omega) ?_)
            rw [f6 _ (by omega)]
            have hw := f13 (st 0 + x) (by omega)
            have go : ∀ v', BW e w v' (st 0 + (x + 1)) → w_L_areFiles_257 K R5 (w_L_areFiles_143 K R5 1) (w_L_areFiles_183 K R5 (w_L_areFiles_143 K R5 1) (dd + 1)) 1 (nI q) (pq 0) (nI (enF e st 0 - st 0)) (nI x) v' h := by
              intro v' hv' x44 e44
              rw [e44, nI_1]
              exact ih (x + 1) (by omega) v' hv'
            have keep : BW e w v7 (st 0 + (x + 1)) := by
              rcases hv with z | ⟨y, y1, y2⟩
              · exact Or.inl z
              · exact Or.inr ⟨y, by omega, y2⟩
            rcases hw with ⟨z, zz⟩ | ⟨z, zz⟩
            · have s236 : w_L_areFiles_236 K R5 (w_L_areFiles_143 K R5 1) (w_L_areFiles_183 K R5 (w_L_areFiles_143 K R5 1) (dd + 1)) (nI q) v7 (pq 0) (nI (enF e st 0 - st 0)) (nI x) (nI (w (st 0 + x))) h :=
                BF (nI_ge (show w (st 0 + x) < 10000 by omega) (by decide)) (go _ (Or.inr ⟨st 0 + x, by omega, by omega, by omega, rfl⟩))
              refine T1 (BF (nI_ge (show w (st 0 + x) < 10000 by omega) (by decide)) (BF ?_ (C_trg rfl e62 (by omega) z (BT ((bit_o _ (show q < 32 by omega)).mpr zz) s236))))
              rcases hv with y | ⟨y, y1, y2, y3, y4⟩
              · rw [y]; exact m1_nle (by omega)
              · rw [y4]; exact nI_ge (f14 y (st 0 + x) y1 (by omega) y3 (by omega)) (by omega)
            · have hge : (10000 : Int32) ≤ nI (w (st 0 + x)) := nI_le z zz
              exact T1 (BT hge (BT hge (go _ keep)))
        have r0 : ∃ n : Nat, w_L_areFiles_183 K R5 (w_L_areFiles_143 K R5 1) n 1 (nI q) v7 (pq 0) (nI (enF e st 0 - st 0)) 0 h := ⟨_, p183 (enF e st 0 - st 0) 0 (by omega) v7 hv⟩
        exact ⟨fun _ => r0, fun _ => BT rfl r0⟩
      | succ j ihj =>
        intro hj v7 hv
        rw [w_L_areFiles_143_s]
        refine BF (pq_ge (j + 1) (by omega)) (T1 (C_lns (j := j + 1) rfl rfl hq hj (show og ≤ 5 by omega) f3 ?_))
        have hlt := f12 j (by omega)
        have hen0 := hen (j + 1) (by omega)
        have een0 : enF e st (j + 1) = st j := rfl
        have em0 := em (j + 1) (by omega)
        rw [een0] at hen0 em0
        rw [em0]
        refine BT (nI_lt (a := 0) (by omega) (by omega)) ?_
        have p183 : ∀ dd x, x + dd = st j - st (j + 1) → ∀ v7, BW e w v7 (st (j + 1) + x) → w_L_areFiles_183 K R5 (w_L_areFiles_143 K R5 (j + 2)) (dd + 1) 1 (nI q) v7 (pq (j + 1)) (nI (st j - st (j + 1))) (nI x) h := by
          intro dd
          induction dd with
          | zero =>
            intro x hx v7 hv
            rw [w_L_areFiles_183_s]
            refine BT (nI_le (by omega) (by omega)) ?_
            intro x34 e34
            rw [e34, show pq (j + 1) + (-1) = pq j from pq_m2 j]
            refine ihj (by omega) v7 ?_
            rwa [show st (j + 1) + x = st j by omega] at hv
          | succ dd ih =>
            intro x hx v7 hv
            rw [w_L_areFiles_183_s]
            refine BF (nI_ge (by omega) (by omega)) (C_lin (j := j + 1) (i := x) (s := st (j + 1)) (m := st j - st (j + 1)) rfl rfl rfl hq hj (show og ≤ 5 by omega) f3 em0 (by omega) (by omega) (f5 (j + 1) (by omega)) (by omega) ?_)
            rw [f6 _ (by omega)]
            have hw := f13 (st (j + 1) + x) (by omega)
            have go : ∀ v', BW e w v' (st (j + 1) + (x + 1)) → w_L_areFiles_257 K R5 (w_L_areFiles_143 K R5 (j + 2)) (w_L_areFiles_183 K R5 (w_L_areFiles_143 K R5 (j + 2)) (dd + 1)) 1 (nI q) (pq (j + 1)) (nI (st j - st (j + 1))) (nI x) v' h := by
              intro v' hv' x44 e44
              rw [e44, nI_1]
              exact ih (x + 1) (by omega) v' hv'
            have keep : BW e w v7 (st (j + 1) + (x + 1)) := by
              rcases hv with z | ⟨y, y1, y2⟩
              · exact Or.inl z
              · exact Or.inr ⟨y, by omega, y2⟩
            rcases hw with ⟨z, zz⟩ | ⟨z, zz⟩
            · have s236 : w_L_areFiles_236 K R5 (w_L_areFiles_143 K R5 (j + 2)) (w_L_areFiles_183 K R5 (w_L_areFiles_143 K R5 (j + 2)) (dd + 1)) (nI q) v7 (pq (j + 1)) (nI (st j - st (j + 1))) (nI x) (nI (w (st (j + 1) + x))) h :=
                BF (nI_ge (show w (st (j + 1) + x) < 10000 by omega) (by decide)) (go _ (Or.inr ⟨st (j + 1) + x, by omega, by omega, by omega, rfl⟩))
              refine T1 (BF (nI_ge (show w (st (j + 1) + x) < 10000 by omega) (by decide)) (BF ?_ (C_trg rfl e62 (by omega) z (BT ((bit_o _ (show q < 32 by omega)).mpr zz) s236))))
              rcases hv with y | ⟨y, y1, y2, y3, y4⟩
              · rw [y]; exact m1_nle (by omega)
              · rw [y4]; exact nI_ge (f14 y (st (j + 1) + x) y1 (by omega) y3 (by omega)) (by omega)
            · have hge : (10000 : Int32) ≤ nI (w (st (j + 1) + x)) := nI_le z zz
              exact T1 (BT hge (BT hge (go _ keep)))
        exact ⟨_, p183 (st j - st (j + 1)) 0 (by omega) v7 hv⟩
    -- the sum of the lengths
    refine C_lns (j := 0) rfl rfl hq (Nat.zero_le _) (show og ≤ 5 by omega) f3 ?_
    have em0 : endC (30 + q) 0 h - h (30 + q + 20) 0 = nI (e - st 0) := em 0 (by decide)
    rw [em0]
    have p30 : ∀ dd x, x + dd = e - st 0 → w_L_areFiles_30 K R5 (dd + 1) (nI q) (lsum (h 101) w (st 0) x) (nI (e - st 0)) (nI x) h := by
      intro dd
      induction dd with
      | zero =>
        intro x hx
        rw [w_L_areFiles_30_s]
        refine BT (nI_le (by omega) (by omega)) (C_siz rfl hq (BT (by rw [f4, show x = e - st 0 by omega]) (C_gen rfl hq ?_)))
        rw [f3]
        refine BF (nI_pos (by omega)) (C_gen rfl hq ?_)
        rw [f3, show (6 : Int32) + nI q = nI (6 + q) from nI_add 6 q, nI_clamp (by omega), cv.2 q hq]
        refine ⟨vp_in_nI (by omega) (by decide), BF (nI_nlt f8 (by omega)) (C_gen rfl hq ?_)⟩
        intro x25 e25
        rw [f3, pq_m] at e25
        rw [e25]
        exact ⟨_, p143 og (Nat.le_refl _) (-1) (Or.inl rfl)⟩
      | succ dd ih =>
        intro x hx
        rw [w_L_areFiles_30_s]
        refine BF (nI_ge (by omega) (by omega)) (C_lin (j := 0) (i := x) (s := st 0) (m := e - st 0) rfl rfl rfl hq (Nat.zero_le _) (show og ≤ 5 by omega) f3 em0 (by omega) (by omega) (f5 0 (by decide)) (by omega) ?_)
        rw [f6 _ (by omega)]
        have p79 : ∀ y : Int32, y = lenW (h 101) (w (st 0 + x)) → w_L_areFiles_79 K R5 (w_L_areFiles_30 K R5 (dd + 1)) (nI q) (nI (e - st 0)) (nI x) (lsum (h 101) w (st 0) x) y h := by
          intro y hy x45 e45 x46 e46
          rw [e46, nI_1, e45, hy]
          exact ih (x + 1) (by omega)
        have hw := f13 (st 0 + x) (by omega)
        by_cases c1 : 100000 ≤ w (st 0 + x)
        · refine BF (nI_nlt c1 (by rcases hw with ⟨z, -⟩ | ⟨-, z⟩ <;> omega)) (p79 20 ?_)
          unfold lenW; rw [if_pos c1]
        · refine BT (nI_lt (show w (st 0 + x) < 100000 by omega) (by decide)) ?_
          by_cases c2 : 10000 ≤ w (st 0 + x)
          · refine BF (nI_nlt c2 (by omega)) (p79 15 ?_)
            unfold lenW; rw [if_neg c1, if_pos c2]
          · have z : w (st 0 + x) < n := by
              rcases hw with ⟨z, -⟩ | ⟨z, -⟩
              · exact z
              · exact absurd z c2
            refine BT (nI_lt (show w (st 0 + x) < 10000 by omega) (by decide)) ⟨vp_in_nI (by omega) (by decide), p79 _ ?_⟩
            rw [nI_clamp (by omega)]
            unfold lenW; rw [if_neg c1, if_neg c2]
    exact ⟨_, p30 (e - st 0) 0 (by omega)⟩
  have p5 : ∀ dd q, q + dd = 4 → w_L_areFiles_5 K (dd + 1) 1 (nI q) h := by
    intro dd
    induction dd with
    | zero =>
      intro q hq
      have h4 : q = 4 := by omega
      subst h4
      rw [w_L_areFiles_5_s]
      exact BT (nI_le (Nat.le_refl 4) (by decide)) ⟨nb1, hK⟩
    | succ dd ih =>
      intro q hq
      rw [w_L_areFiles_5_s]
      exact BF (nI_ge (show q < 4 by omega) (by decide)) (T1 (file q (by omega) _ (ih (q + 1) (by omega))))
  exact ⟨5, p5 4 0 rfl⟩
