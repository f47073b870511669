/-! THE START, II: the relation holds of it -/
theorem hi_RS : ∀ k, k < 6 → hini (10 + k) 0 = nI k ∧ hini (10 + k) 1 = hini 65 k ∧ hini (10 + k) 2 = hini 66 k ∧ hini (10 + k) 3 = hini 67 k ∧ hini (10 + k) 4 = hini 68 k ∧ (hini (10 + k) 5 = -1 ∧ hini (10 + k) 6 = -1 ∧ hini (10 + k) 7 = -1 ∧ hini (10 + k) 8 = -1 ∧ hini 69 k = -1) := by decide +kernel
theorem hi_66 : ∀ k, k < 6 → hini 66 k ≤ 0 := by decide +kernel
theorem hi_RF : ∀ f, f < 4 → hini (30 + f) 2 = hini 79 f ∧ hini (30 + f) 3 = hini 75 f ∧ hini (30 + f) 4 = hini 76 f ∧ hini (30 + f) 5 = hini 77 f ∧ hini (30 + f) 7 = hini 78 f ∧ hini (30 + f) 8 = hini 80 f ∧ (∀ j, j < 6 → hini (30 + f + 20) j = hini 81 (7 * f + j)) ∧ hini 79 f = 0 ∧ hini 79 f = hini 81 (7 * f) := by decide +kernel
theorem hi_OF : ∀ f, f < 4 → hini 79 f = nI 0 ∧ (∀ j, j < 7 → hini 81 (7 * f + j) = nI 0) ∧ hini 80 f = nI 0 ∧ hini 77 f = nI 2 ∧ ¬ hini 76 f < 0 := by decide +kernel
theorem hi_RR : ∀ r, r < 6 → hini (20 + r) 0 = hini 70 r ∧ hini (20 + r) 1 = hini 71 r ∧ hini (20 + r) 2 = hini 72 r ∧ hini 70 r = 0 ∧ hini (20 + r) 4 = hini 74 r ∧ hini 74 r = nI 0 := by decide +kernel
theorem hi_LG : LG hini := by
  refine ⟨0, ⟨by decide +kernel, fun k hk => ?_, fun k hk q => absurd (hi_66 k hk) q, by decide +kernel, fun j hj => ?_⟩, 0, 0, ⟨⟨fun f hf => ?_, by decide +kernel⟩, ⟨by decide +kernel, by decide +kernel, by decide +kernel, by decide +kernel, by decide +kernel, fun j hj => ?_⟩, fun r hr => ?_, fun r hr => ?_, fun f hf => ?_, ⟨0, 0, 0, by decide +kernel, by decide +kernel, by decide +kernel, by decide, by decide, by decide, by decide, by decide +kernel⟩⟩, by decide +kernel, by decide, by decide +kernel⟩
  · obtain ⟨a, b, d, e, f, g⟩ := hi_RS k hk
    exact ⟨a, b, d, e, f, Or.inl g⟩
  · exact absurd hj (by rw [show (hini 60 31).toNatClampNeg = 0 by decide +kernel]; omega)
  · obtain ⟨a1, a2, a3, a4, a5, a6, a7, a8, a9⟩ := hi_RF f hf
    refine ⟨a1, a2, a3, a4, a5, a6, a7, fun j hj => ?_, fun q => absurd a9 q⟩
    rw [a8] at hj
    exact absurd hj (by rw [x32_00]; omega)
  · exact absurd hj (by rw [show (hini 60 26).toNatClampNeg = 0 by decide +kernel]; omega)
  · obtain ⟨a1, a2, a3, a4, a5, a6⟩ := hi_RR r hr
    exact ⟨a1, a2, a3, fun q => absurd a4 q, a5⟩
  · obtain ⟨a1, a2, a3, a4, a5, a6⟩ := hi_RR r hr
    exact ⟨Or.inl a4, 0, by decide, a6⟩
  · obtain ⟨a1, a2, a3, a4, a5⟩ := hi_OF f hf
    exact ⟨0, fun _ => 0, a1, a2, by decide, fun _ _ => Nat.le_refl 0, by decide, ⟨0, 2, a3, a4, by decide, by decide⟩, a5⟩
