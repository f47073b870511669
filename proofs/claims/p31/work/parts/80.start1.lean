/-! THE START: the constructor's world as ONE state -/
def WS5 (T : Nat → ClassId) (u : Nat → Nat) : va_W := [((u 0), .inr (5, [.ref (u 1), .ref (u 2), .ref (u 3), .ref (u 4), .ref (u 6), .int 0, .int 5, .int 10, .int 30])), ((u 1), .inl (T 1, 6, .inr (.inr (.inr (.inr (va_up (va_up (va_up (va_up (va_up (va_up (fun _ => none) (0 : Int32).toNatClampNeg (some (u 10))) (1 : Int32).toNatClampNeg (some (u 11))) (2 : Int32).toNatClampNeg (some (u 12))) (3 : Int32).toNatClampNeg (some (u 13))) (4 : Int32).toNatClampNeg (some (u 14))) (5 : Int32).toNatClampNeg (some (u 15)))))))), ((u 2), .inl (T 2, 6, .inr (.inr (.inr (.inr (va_up (va_up (va_up (va_up (va_up (va_up (fun _ => none) (0 : Int32).toNatClampNeg (some (u 20))) (1 : Int32).toNatClampNeg (some (u 21))) (2 : Int32).toNatClampNeg (some (u 22))) (3 : Int32).toNatClampNeg (some (u 23))) (4 : Int32).toNatClampNeg (some (u 24))) (5 : Int32).toNatClampNeg (some (u 25)))))))), ((u 3), .inl (T 3, 4, .inr (.inr (.inr (.inr (va_up (va_up (va_up (va_up (fun _ => none) (0 : Int32).toNatClampNeg (some (u 30))) (1 : Int32).toNatClampNeg (some (u 31))) (2 : Int32).toNatClampNeg (some (u 32))) (3 : Int32).toNatClampNeg (some (u 33)))))))), ((u 4), .inr (0, [.ref (u 5), .int 0, .int 0, .int 0, .int 0, .int 0])), ((u 5), .inl (T 0, 400, .inl (fun _ => 0))), ((u 6), .inr (1, [.ref (u 7), .ref (u 8), .int 0])), ((u 7), .inl (T 0, 400, .inl (fun _ => 0))), ((u 8), .inl (T 0, 400, .inl (fun _ => 0))), ((u 10), .inr (4, [.int 0, .int 5, .int 0, .int 0, .int 0, .int (-1), .int (-1), .int (-1), .int (-1)])), ((u 11), .inr (4, [.int 1, .int 5, .int 0, .int 0, .int 0, .int (-1), .int (-1), .int (-1), .int (-1)])), ((u 12), .inr (4, [.int 2, .int 5, .int 0, .int 0, .int 0, .int (-1), .int (-1), .int (-1), .int (-1)])), ((u 13), .inr (4, [.int 3, .int 5, .int 0, .int 0, .int 0, .int (-1), .int (-1), .int (-1), .int (-1)])), ((u 14), .inr (4, [.int 4, .int 5, .int 0, .int 0, .int 0, .int (-1), .int (-1), .int (-1), .int (-1)])), ((u 15), .inr (4, [.int 5, .int 5, .int 0, .int 0, .int 0, .int (-1), .int (-1), .int (-1), .int (-1)])), ((u 20), .inr (3, [.int 0, .int 0, .int 0, .int (-1), .int 0])), ((u 21), .inr (3, [.int 0, .int 0, .int 0, .int (-1), .int 0])), ((u 22), .inr (3, [.int 0, .int 0, .int 0, .int (-1), .int 0])), ((u 23), .inr (3, [.int 0, .int 0, .int 0, .int (-1), .int 0])), ((u 24), .inr (3, [.int 0, .int 0, .int 0, .int (-1), .int 0])), ((u 25), .inr (3, [.int 0, .int 0, .int 0, .int (-1), .int 0])), ((u 30), .inr (2, [.ref (u 40), .ref (u 50), .int 0, .int 1000, .int 0, .int 2, .int 0, .int 0, .int 0, .int 0])), ((u 40), .inl (T 0, 400, .inl (fun _ => 0))), ((u 50), .inl (T 0, 6, .inl (fun _ => 0))), ((u 31), .inr (2, [.ref (u 41), .ref (u 51), .int 0, .int 1000, .int 0, .int 2, .int 0, .int 0, .int 0, .int 0])), ((u 41), .inl (T 0, 400, .inl (fun _ => 0))), ((u 51), .inl (T 0, 6, .inl (fun _ => 0))), ((u 32), .inr (2, [.ref (u 42), .ref (u 52), .int 0, .int 1000, .int 0, .int 2, .int 0, .int 0, .int 0, .int 0])), ((u 42), .inl (T 0, 400, .inl (fun _ => 0))), ((u 52), .inl (T 0, 6, .inl (fun _ => 0))), ((u 33), .inr (2, [.ref (u 43), .ref (u 53), .int 0, .int 1000, .int 0, .int 2, .int 0, .int 0, .int 0, .int 0])), ((u 43), .inl (T 0, 400, .inl (fun _ => 0))), ((u 53), .inl (T 0, 6, .inl (fun _ => 0)))]
def xidl : List Nat := [0, 1, 2, 3, 4, 5, 6, 7, 8, 10, 11, 12, 13, 14, 15, 20, 21, 22, 23, 24, 25, 30, 40, 50, 31, 41, 51, 32, 42, 52, 33, 43, 53, 101, 102]
def adI (u : Nat → Nat) (qg qc : Nat) : Nat → Nat := fun k => if k < 60 then u k else if k = 101 then qg else if k = 102 then qc else 0
def hini : xH := fun a b =>
  if a = 0 then (if b = 6 then 5 else if b = 7 then 10 else if b = 8 then 30 else 0)
  else if 10 ≤ a ∧ a < 16 then (if b = 0 then nI (a - 10) else if b = 1 then 5 else if 5 ≤ b then (-1) else 0)
  else if 20 ≤ a ∧ a < 26 then (if b = 3 then (-1) else 0)
  else if 30 ≤ a ∧ a < 34 then (if b = 3 then 1000 else if b = 5 then 2 else 0)
  else 0
def WSI (T : Nat → ClassId) (u : Nat → Nat) (qg qc : Nat) : va_W := WS5 T u ++ [(qg, .inl (T 0, 60, .inl (fun _ => 0))), (qc, .inl (T 0, 14, .inl (fun _ => 0)))]
theorem cl_0 : (0 : Int32).toNatClampNeg = 0 := by decide
theorem cl_1 : (1 : Int32).toNatClampNeg = 1 := by decide
theorem cl_2 : (2 : Int32).toNatClampNeg = 2 := by decide
theorem cl_3 : (3 : Int32).toNatClampNeg = 3 := by decide
theorem cl_4 : (4 : Int32).toNatClampNeg = 4 := by decide
theorem cl_5 : (5 : Int32).toNatClampNeg = 5 := by decide
theorem adI_103 {u : Nat → Nat} {qg qc : Nat} : adI u qg qc 103 = 0 := rfl
theorem xsh_lt {k : Nat} {sh : xSh} (h : xsh (fun _ => 0) k = some sh) : k < 103 := by
  rcases Nat.lt_or_ge k 103 with q | q
  · exact q
  · exfalso
    rw [xsh, if_neg (by omega), if_neg (by omega), if_neg (by omega), if_neg (by omega), if_neg (by omega), if_neg (by omega), if_neg (by omega), if_neg (by omega), if_neg (by omega), if_neg (by omega), if_neg (by omega), if_neg (by omega), if_neg (by omega), if_neg (by omega), if_neg (fun z => z.2 rfl)] at h
    cases h
theorem xid_all : ∀ k, k < 103 → (xsh (fun _ => 0) k).isSome = true → k ∈ xidl := by decide +kernel
theorem xid_mem {u : Nat → Nat} {qg qc k : Nat} {sh : xSh} (h : xsh (adI u qg qc) k = some sh) : k ∈ xidl := by
  by_cases z : k = 103
  · subst z
    rw [xsh_no adI_103] at h
    cases h
  · have h' : xsh (fun _ => 0) k = some sh := by rw [xsh_ne (ad := adI u qg qc) z]; exact h
    exact xid_all k (xsh_lt h') (by rw [h']; rfl)
set_option maxRecDepth 20000 in
theorem cell_0 {D : va_G} {T : Nat → ClassId} {u : Nat → Nat} {qg qc : Nat} {H : Heap} (hP : va_P D vwCl (WSI T u qg qc) H) : ∃ sh, xsh (adI u qg qc) 0 = some sh ∧ va_at D vwCl (adI u qg qc 0, xent (adI u qg qc) T hini 0 sh) H := ⟨_, xs0, hP 0 _ rfl⟩
set_option maxRecDepth 20000 in
theorem cell_1 {D : va_G} {T : Nat → ClassId} {u : Nat → Nat} {qg qc : Nat} {H : Heap} (hP : va_P D vwCl (WSI T u qg qc) H) : ∃ sh, xsh (adI u qg qc) 1 = some sh ∧ va_at D vwCl (adI u qg qc 1, xent (adI u qg qc) T hini 1 sh) H := ⟨_, xs1, at_q (hP 1 _ rfl) (fun j hj => by rcases (show j = 0 ∨ j = 1 ∨ j = 2 ∨ j = 3 ∨ j = 4 ∨ j = 5 by omega) with rfl | rfl | rfl | rfl | rfl | rfl <;> simp [va_up, cl_0, cl_1, cl_2, cl_3, cl_4, cl_5, adI])⟩
set_option maxRecDepth 20000 in
theorem cell_2 {D : va_G} {T : Nat → ClassId} {u : Nat → Nat} {qg qc : Nat} {H : Heap} (hP : va_P D vwCl (WSI T u qg qc) H) : ∃ sh, xsh (adI u qg qc) 2 = some sh ∧ va_at D vwCl (adI u qg qc 2, xent (adI u qg qc) T hini 2 sh) H := ⟨_, xs2, at_q (hP 2 _ rfl) (fun j hj => by rcases (show j = 0 ∨ j = 1 ∨ j = 2 ∨ j = 3 ∨ j = 4 ∨ j = 5 by omega) with rfl | rfl | rfl | rfl | rfl | rfl <;> simp [va_up, cl_0, cl_1, cl_2, cl_3, cl_4, cl_5, adI])⟩
set_option maxRecDepth 20000 in
theorem cell_3 {D : va_G} {T : Nat → ClassId} {u : Nat → Nat} {qg qc : Nat} {H : Heap} (hP : va_P D vwCl (WSI T u qg qc) H) : ∃ sh, xsh (adI u qg qc) 3 = some sh ∧ va_at D vwCl (adI u qg qc 3, xent (adI u qg qc) T hini 3 sh) H := ⟨_, xs3, at_q (hP 3 _ rfl) (fun j hj => by rcases (show j = 0 ∨ j = 1 ∨ j = 2 ∨ j = 3 by omega) with rfl | rfl | rfl | rfl <;> simp [va_up, cl_0, cl_1, cl_2, cl_3, cl_4, cl_5, adI])⟩
set_option maxRecDepth 20000 in
theorem cell_4 {D : va_G} {T : Nat → ClassId} {u : Nat → Nat} {qg qc : Nat} {H : Heap} (hP : va_P D vwCl (WSI T u qg qc) H) : ∃ sh, xsh (adI u qg qc) 4 = some sh ∧ va_at D vwCl (adI u qg qc 4, xent (adI u qg qc) T hini 4 sh) H := ⟨_, xs4, hP 4 _ rfl⟩
set_option maxRecDepth 20000 in
theorem cell_5 {D : va_G} {T : Nat → ClassId} {u : Nat → Nat} {qg qc : Nat} {H : Heap} (hP : va_P D vwCl (WSI T u qg qc) H) : ∃ sh, xsh (adI u qg qc) 5 = some sh ∧ va_at D vwCl (adI u qg qc 5, xent (adI u qg qc) T hini 5 sh) H := ⟨_, xs5, hP 5 _ rfl⟩
set_option maxRecDepth 20000 in
theorem cell_6 {D : va_G} {T : Nat → ClassId} {u : Nat → Nat} {qg qc : Nat} {H : Heap} (hP : va_P D vwCl (WSI T u qg qc) H) : ∃ sh, xsh (adI u qg qc) 6 = some sh ∧ va_at D vwCl (adI u qg qc 6, xent (adI u qg qc) T hini 6 sh) H := ⟨_, xs6, hP 6 _ rfl⟩
set_option maxRecDepth 20000 in
theorem cell_7 {D : va_G} {T : Nat → ClassId} {u : Nat → Nat} {qg qc : Nat} {H : Heap} (hP : va_P D vwCl (WSI T u qg qc) H) : ∃ sh, xsh (adI u qg qc) 7 = some sh ∧ va_at D vwCl (adI u qg qc 7, xent (adI u qg qc) T hini 7 sh) H := ⟨_, xs7, hP 7 _ rfl⟩
set_option maxRecDepth 20000 in
theorem cell_8 {D : va_G} {T : Nat → ClassId} {u : Nat → Nat} {qg qc : Nat} {H : Heap} (hP : va_P D vwCl (WSI T u qg qc) H) : ∃ sh, xsh (adI u qg qc) 8 = some sh ∧ va_at D vwCl (adI u qg qc 8, xent (adI u qg qc) T hini 8 sh) H := ⟨_, xs8, hP 8 _ rfl⟩
set_option maxRecDepth 20000 in
theorem cell_10 {D : va_G} {T : Nat → ClassId} {u : Nat → Nat} {qg qc : Nat} {H : Heap} (hP : va_P D vwCl (WSI T u qg qc) H) : ∃ sh, xsh (adI u qg qc) 10 = some sh ∧ va_at D vwCl (adI u qg qc 10, xent (adI u qg qc) T hini 10 sh) H := ⟨_, xsS (k := 10) (by decide), hP 9 _ rfl⟩
set_option maxRecDepth 20000 in
theorem cell_11 {D : va_G} {T : Nat → ClassId} {u : Nat → Nat} {qg qc : Nat} {H : Heap} (hP : va_P D vwCl (WSI T u qg qc) H) : ∃ sh, xsh (adI u qg qc) 11 = some sh ∧ va_at D vwCl (adI u qg qc 11, xent (adI u qg qc) T hini 11 sh) H := ⟨_, xsS (k := 11) (by decide), hP 10 _ rfl⟩
set_option maxRecDepth 20000 in
theorem cell_12 {D : va_G} {T : Nat → ClassId} {u : Nat → Nat} {qg qc : Nat} {H : Heap} (hP : va_P D vwCl (WSI T u qg qc) H) : ∃ sh, xsh (adI u qg qc) 12 = some sh ∧ va_at D vwCl (adI u qg qc 12, xent (adI u qg qc) T hini 12 sh) H := ⟨_, xsS (k := 12) (by decide), hP 11 _ rfl⟩
set_option maxRecDepth 20000 in
theorem cell_13 {D : va_G} {T : Nat → ClassId} {u : Nat → Nat} {qg qc : Nat} {H : Heap} (hP : va_P D vwCl (WSI T u qg qc) H) : ∃ sh, xsh (adI u qg qc) 13 = some sh ∧ va_at D vwCl (adI u qg qc 13, xent (adI u qg qc) T hini 13 sh) H := ⟨_, xsS (k := 13) (by decide), hP 12 _ rfl⟩
set_option maxRecDepth 20000 in
theorem cell_14 {D : va_G} {T : Nat → ClassId} {u : Nat → Nat} {qg qc : Nat} {H : Heap} (hP : va_P D vwCl (WSI T u qg qc) H) : ∃ sh, xsh (adI u qg qc) 14 = some sh ∧ va_at D vwCl (adI u qg qc 14, xent (adI u qg qc) T hini 14 sh) H := ⟨_, xsS (k := 14) (by decide), hP 13 _ rfl⟩
set_option maxRecDepth 20000 in
theorem cell_15 {D : va_G} {T : Nat → ClassId} {u : Nat → Nat} {qg qc : Nat} {H : Heap} (hP : va_P D vwCl (WSI T u qg qc) H) : ∃ sh, xsh (adI u qg qc) 15 = some sh ∧ va_at D vwCl (adI u qg qc 15, xent (adI u qg qc) T hini 15 sh) H := ⟨_, xsS (k := 15) (by decide), hP 14 _ rfl⟩
set_option maxRecDepth 20000 in
theorem cell_20 {D : va_G} {T : Nat → ClassId} {u : Nat → Nat} {qg qc : Nat} {H : Heap} (hP : va_P D vwCl (WSI T u qg qc) H) : ∃ sh, xsh (adI u qg qc) 20 = some sh ∧ va_at D vwCl (adI u qg qc 20, xent (adI u qg qc) T hini 20 sh) H := ⟨_, xsR (k := 20) (by decide), hP 15 _ rfl⟩
set_option maxRecDepth 20000 in
theorem cell_21 {D : va_G} {T : Nat → ClassId} {u : Nat → Nat} {qg qc : Nat} {H : Heap} (hP : va_P D vwCl (WSI T u qg qc) H) : ∃ sh, xsh (adI u qg qc) 21 = some sh ∧ va_at D vwCl (adI u qg qc 21, xent (adI u qg qc) T hini 21 sh) H := ⟨_, xsR (k := 21) (by decide), hP 16 _ rfl⟩
set_option maxRecDepth 20000 in
theorem cell_22 {D : va_G} {T : Nat → ClassId} {u : Nat → Nat} {qg qc : Nat} {H : Heap} (hP : va_P D vwCl (WSI T u qg qc) H) : ∃ sh, xsh (adI u qg qc) 22 = some sh ∧ va_at D vwCl (adI u qg qc 22, xent (adI u qg qc) T hini 22 sh) H := ⟨_, xsR (k := 22) (by decide), hP 17 _ rfl⟩
set_option maxRecDepth 20000 in
theorem cell_23 {D : va_G} {T : Nat → ClassId} {u : Nat → Nat} {qg qc : Nat} {H : Heap} (hP : va_P D vwCl (WSI T u qg qc) H) : ∃ sh, xsh (adI u qg qc) 23 = some sh ∧ va_at D vwCl (adI u qg qc 23, xent (adI u qg qc) T hini 23 sh) H := ⟨_, xsR (k := 23) (by decide), hP 18 _ rfl⟩
set_option maxRecDepth 20000 in
theorem cell_24 {D : va_G} {T : Nat → ClassId} {u : Nat → Nat} {qg qc : Nat} {H : Heap} (hP : va_P D vwCl (WSI T u qg qc) H) : ∃ sh, xsh (adI u qg qc) 24 = some sh ∧ va_at D vwCl (adI u qg qc 24, xent (adI u qg qc) T hini 24 sh) H := ⟨_, xsR (k := 24) (by decide), hP 19 _ rfl⟩
set_option maxRecDepth 20000 in
theorem cell_25 {D : va_G} {T : Nat → ClassId} {u : Nat → Nat} {qg qc : Nat} {H : Heap} (hP : va_P D vwCl (WSI T u qg qc) H) : ∃ sh, xsh (adI u qg qc) 25 = some sh ∧ va_at D vwCl (adI u qg qc 25, xent (adI u qg qc) T hini 25 sh) H := ⟨_, xsR (k := 25) (by decide), hP 20 _ rfl⟩
set_option maxRecDepth 20000 in
theorem cell_30 {D : va_G} {T : Nat → ClassId} {u : Nat → Nat} {qg qc : Nat} {H : Heap} (hP : va_P D vwCl (WSI T u qg qc) H) : ∃ sh, xsh (adI u qg qc) 30 = some sh ∧ va_at D vwCl (adI u qg qc 30, xent (adI u qg qc) T hini 30 sh) H := ⟨_, xsF (k := 30) (by decide), hP 21 _ rfl⟩
set_option maxRecDepth 20000 in
theorem cell_40 {D : va_G} {T : Nat → ClassId} {u : Nat → Nat} {qg qc : Nat} {H : Heap} (hP : va_P D vwCl (WSI T u qg qc) H) : ∃ sh, xsh (adI u qg qc) 40 = some sh ∧ va_at D vwCl (adI u qg qc 40, xent (adI u qg qc) T hini 40 sh) H := ⟨_, xsFr (k := 30) (by decide), hP 22 _ rfl⟩
set_option maxRecDepth 20000 in
theorem cell_50 {D : va_G} {T : Nat → ClassId} {u : Nat → Nat} {qg qc : Nat} {H : Heap} (hP : va_P D vwCl (WSI T u qg qc) H) : ∃ sh, xsh (adI u qg qc) 50 = some sh ∧ va_at D vwCl (adI u qg qc 50, xent (adI u qg qc) T hini 50 sh) H := ⟨_, xsFs (k := 30) (by decide), hP 23 _ rfl⟩
set_option maxRecDepth 20000 in
theorem cell_31 {D : va_G} {T : Nat → ClassId} {u : Nat → Nat} {qg qc : Nat} {H : Heap} (hP : va_P D vwCl (WSI T u qg qc) H) : ∃ sh, xsh (adI u qg qc) 31 = some sh ∧ va_at D vwCl (adI u qg qc 31, xent (adI u qg qc) T hini 31 sh) H := ⟨_, xsF (k := 31) (by decide), hP 24 _ rfl⟩
set_option maxRecDepth 20000 in
theorem cell_41 {D : va_G} {T : Nat → ClassId} {u : Nat → Nat} {qg qc : Nat} {H : Heap} (hP : va_P D vwCl (WSI T u qg qc) H) : ∃ sh, xsh (adI u qg qc) 41 = some sh ∧ va_at D vwCl (adI u qg qc 41, xent (adI u qg qc) T hini 41 sh) H := ⟨_, xsFr (k := 31) (by decide), hP 25 _ rfl⟩
set_option maxRecDepth 20000 in
theorem cell_51 {D : va_G} {T : Nat → ClassId} {u : Nat → Nat} {qg qc : Nat} {H : Heap} (hP : va_P D vwCl (WSI T u qg qc) H) : ∃ sh, xsh (adI u qg qc) 51 = some sh ∧ va_at D vwCl (adI u qg qc 51, xent (adI u qg qc) T hini 51 sh) H := ⟨_, xsFs (k := 31) (by decide), hP 26 _ rfl⟩
set_option maxRecDepth 20000 in
theorem cell_32 {D : va_G} {T : Nat → ClassId} {u : Nat → Nat} {qg qc : Nat} {H : Heap} (hP : va_P D vwCl (WSI T u qg qc) H) : ∃ sh, xsh (adI u qg qc) 32 = some sh ∧ va_at D vwCl (adI u qg qc 32, xent (adI u qg qc) T hini 32 sh) H := ⟨_, xsF (k := 32) (by decide), hP 27 _ rfl⟩
set_option maxRecDepth 20000 in
theorem cell_42 {D : va_G} {T : Nat → ClassId} {u : Nat → Nat} {qg qc : Nat} {H : Heap} (hP : va_P D vwCl (WSI T u qg qc) H) : ∃ sh, xsh (adI u qg qc) 42 = some sh ∧ va_at D vwCl (adI u qg qc 42, xent (adI u qg qc) T hini 42 sh) H := ⟨_, xsFr (k := 32) (by decide), hP 28 _ rfl⟩
set_option maxRecDepth 20000 in
theorem cell_52 {D : va_G} {T : Nat → ClassId} {u : Nat → Nat} {qg qc : Nat} {H : Heap} (hP : va_P D vwCl (WSI T u qg qc) H) : ∃ sh, xsh (adI u qg qc) 52 = some sh ∧ va_at D vwCl (adI u qg qc 52, xent (adI u qg qc) T hini 52 sh) H := ⟨_, xsFs (k := 32) (by decide), hP 29 _ rfl⟩
set_option maxRecDepth 20000 in
theorem cell_33 {D : va_G} {T : Nat → ClassId} {u : Nat → Nat} {qg qc : Nat} {H : Heap} (hP : va_P D vwCl (WSI T u qg qc) H) : ∃ sh, xsh (adI u qg qc) 33 = some sh ∧ va_at D vwCl (adI u qg qc 33, xent (adI u qg qc) T hini 33 sh) H := ⟨_, xsF (k := 33) (by decide), hP 30 _ rfl⟩
set_option maxRecDepth 20000 in
theorem cell_43 {D : va_G} {T : Nat → ClassId} {u : Nat → Nat} {qg qc : Nat} {H : Heap} (hP : va_P D vwCl (WSI T u qg qc) H) : ∃ sh, xsh (adI u qg qc) 43 = some sh ∧ va_at D vwCl (adI u qg qc 43, xent (adI u qg qc) T hini 43 sh) H := ⟨_, xsFr (k := 33) (by decide), hP 31 _ rfl⟩
set_option maxRecDepth 20000 in
theorem cell_53 {D : va_G} {T : Nat → ClassId} {u : Nat → Nat} {qg qc : Nat} {H : Heap} (hP : va_P D vwCl (WSI T u qg qc) H) : ∃ sh, xsh (adI u qg qc) 53 = some sh ∧ va_at D vwCl (adI u qg qc 53, xent (adI u qg qc) T hini 53 sh) H := ⟨_, xsFs (k := 33) (by decide), hP 32 _ rfl⟩
set_option maxRecDepth 20000 in
theorem cell_101 {D : va_G} {T : Nat → ClassId} {u : Nat → Nat} {qg qc : Nat} {H : Heap} (hP : va_P D vwCl (WSI T u qg qc) H) : ∃ sh, xsh (adI u qg qc) 101 = some sh ∧ va_at D vwCl (adI u qg qc 101, xent (adI u qg qc) T hini 101 sh) H := ⟨_, xs101, hP 33 _ rfl⟩
set_option maxRecDepth 20000 in
theorem cell_102 {D : va_G} {T : Nat → ClassId} {u : Nat → Nat} {qg qc : Nat} {H : Heap} (hP : va_P D vwCl (WSI T u qg qc) H) : ∃ sh, xsh (adI u qg qc) 102 = some sh ∧ va_at D vwCl (adI u qg qc 102, xent (adI u qg qc) T hini 102 sh) H := ⟨_, xs102, hP 34 _ rfl⟩
theorem xp_of {D : va_G} {T : Nat → ClassId} {u : Nat → Nat} {qg qc : Nat} {H : Heap} (hP : va_P D vwCl (WSI T u qg qc) H) : XP (adI u qg qc) D T hini H := by
  intro k sh hs
  have hk := xid_mem hs
  simp only [xidl, List.mem_cons, List.not_mem_nil, or_false] at hk
  rcases hk with rfl | rfl | rfl | rfl | rfl | rfl | rfl | rfl | rfl | rfl | rfl | rfl | rfl | rfl | rfl | rfl | rfl | rfl | rfl | rfl | rfl | rfl | rfl | rfl | rfl | rfl | rfl | rfl | rfl | rfl | rfl | rfl | rfl | rfl | rfl
  · obtain ⟨sh', e, h⟩ := cell_0 hP; cases e.symm.trans hs; exact h
  · obtain ⟨sh', e, h⟩ := cell_1 hP; cases e.symm.trans hs; exact h
  · obtain ⟨sh', e, h⟩ := cell_2 hP; cases e.symm.trans hs; exact h
  · obtain ⟨sh', e, h⟩ := cell_3 hP; cases e.symm.trans hs; exact h
  · obtain ⟨sh', e, h⟩ := cell_4 hP; cases e.symm.trans hs; exact h
  · obtain ⟨sh', e, h⟩ := cell_5 hP; cases e.symm.trans hs; exact h
  · obtain ⟨sh', e, h⟩ := cell_6 hP; cases e.symm.trans hs; exact h
  · obtain ⟨sh', e, h⟩ := cell_7 hP; cases e.symm.trans hs; exact h
  · obtain ⟨sh', e, h⟩ := cell_8 hP; cases e.symm.trans hs; exact h
  · obtain ⟨sh', e, h⟩ := cell_10 hP; cases e.symm.trans hs; exact h
  · obtain ⟨sh', e, h⟩ := cell_11 hP; cases e.symm.trans hs; exact h
  · obtain ⟨sh', e, h⟩ := cell_12 hP; cases e.symm.trans hs; exact h
  · obtain ⟨sh', e, h⟩ := cell_13 hP; cases e.symm.trans hs; exact h
  · obtain ⟨sh', e, h⟩ := cell_14 hP; cases e.symm.trans hs; exact h
  · obtain ⟨sh', e, h⟩ := cell_15 hP; cases e.symm.trans hs; exact h
  · obtain ⟨sh', e, h⟩ := cell_20 hP; cases e.symm.trans hs; exact h
  · obtain ⟨sh', e, h⟩ := cell_21 hP; cases e.symm.trans hs; exact h
  · obtain ⟨sh', e, h⟩ := cell_22 hP; cases e.symm.trans hs; exact h
  · obtain ⟨sh', e, h⟩ := cell_23 hP; cases e.symm.trans hs; exact h
  · obtain ⟨sh', e, h⟩ := cell_24 hP; cases e.symm.trans hs; exact h
  · obtain ⟨sh', e, h⟩ := cell_25 hP; cases e.symm.trans hs; exact h
  · obtain ⟨sh', e, h⟩ := cell_30 hP; cases e.symm.trans hs; exact h
  · obtain ⟨sh', e, h⟩ := cell_40 hP; cases e.symm.trans hs; exact h
  · obtain ⟨sh', e, h⟩ := cell_50 hP; cases e.symm.trans hs; exact h
  · obtain ⟨sh', e, h⟩ := cell_31 hP; cases e.symm.trans hs; exact h
  · obtain ⟨sh', e, h⟩ := cell_41 hP; cases e.symm.trans hs; exact h
  · obtain ⟨sh', e, h⟩ := cell_51 hP; cases e.symm.trans hs; exact h
  · obtain ⟨sh', e, h⟩ := cell_32 hP; cases e.symm.trans hs; exact h
  · obtain ⟨sh', e, h⟩ := cell_42 hP; cases e.symm.trans hs; exact h
  · obtain ⟨sh', e, h⟩ := cell_52 hP; cases e.symm.trans hs; exact h
  · obtain ⟨sh', e, h⟩ := cell_33 hP; cases e.symm.trans hs; exact h
  · obtain ⟨sh', e, h⟩ := cell_43 hP; cases e.symm.trans hs; exact h
  · obtain ⟨sh', e, h⟩ := cell_53 hP; cases e.symm.trans hs; exact h
  · obtain ⟨sh', e, h⟩ := cell_101 hP; cases e.symm.trans hs; exact h
  · obtain ⟨sh', e, h⟩ := cell_102 hP; cases e.symm.trans hs; exact h
theorem pos_of {T : Nat → ClassId} {u : Nat → Nat} {qg qc k : Nat} {sh : xSh} (hs : xsh (adI u qg qc) k = some sh) : ∃ (i : Nat) (e : va_E), (WSI T u qg qc)[i]? = some (adI u qg qc k, e) ∧ xidl[i]? = some k := by
  have hk := xid_mem hs
  simp only [xidl, List.mem_cons, List.not_mem_nil, or_false] at hk
  rcases hk with rfl | rfl | rfl | rfl | rfl | rfl | rfl | rfl | rfl | rfl | rfl | rfl | rfl | rfl | rfl | rfl | rfl | rfl | rfl | rfl | rfl | rfl | rfl | rfl | rfl | rfl | rfl | rfl | rfl | rfl | rfl | rfl | rfl | rfl | rfl
  · exact ⟨0, _, rfl, rfl⟩
  · exact ⟨1, _, rfl, rfl⟩
  · exact ⟨2, _, rfl, rfl⟩
  · exact ⟨3, _, rfl, rfl⟩
  · exact ⟨4, _, rfl, rfl⟩
  · exact ⟨5, _, rfl, rfl⟩
  · exact ⟨6, _, rfl, rfl⟩
  · exact ⟨7, _, rfl, rfl⟩
  · exact ⟨8, _, rfl, rfl⟩
  · exact ⟨9, _, rfl, rfl⟩
  · exact ⟨10, _, rfl, rfl⟩
  · exact ⟨11, _, rfl, rfl⟩
  · exact ⟨12, _, rfl, rfl⟩
  · exact ⟨13, _, rfl, rfl⟩
  · exact ⟨14, _, rfl, rfl⟩
  · exact ⟨15, _, rfl, rfl⟩
  · exact ⟨16, _, rfl, rfl⟩
  · exact ⟨17, _, rfl, rfl⟩
  · exact ⟨18, _, rfl, rfl⟩
  · exact ⟨19, _, rfl, rfl⟩
  · exact ⟨20, _, rfl, rfl⟩
  · exact ⟨21, _, rfl, rfl⟩
  · exact ⟨22, _, rfl, rfl⟩
  · exact ⟨23, _, rfl, rfl⟩
  · exact ⟨24, _, rfl, rfl⟩
  · exact ⟨25, _, rfl, rfl⟩
  · exact ⟨26, _, rfl, rfl⟩
  · exact ⟨27, _, rfl, rfl⟩
  · exact ⟨28, _, rfl, rfl⟩
  · exact ⟨29, _, rfl, rfl⟩
  · exact ⟨30, _, rfl, rfl⟩
  · exact ⟨31, _, rfl, rfl⟩
  · exact ⟨32, _, rfl, rfl⟩
  · exact ⟨33, _, rfl, rfl⟩
  · exact ⟨34, _, rfl, rfl⟩
theorem xa_of {B0 : Nat} {T : Nat → ClassId} {u : Nat → Nat} {qg qc : Nat} (hD : va_D (fun a => B0 ≤ a) (WSI T u qg qc)) : XA B0 (adI u qg qc) := by
  refine ⟨fun i j a b hi hj he => ?_, fun i a hi => ?_⟩
  · obtain ⟨x, e, h1, h2⟩ := pos_of (T := T) (u := u) (qg := qg) (qc := qc) hi
    obtain ⟨y, f, h3, h4⟩ := pos_of (T := T) (u := u) (qg := qg) (qc := qc) hj
    have exy := hD.1 x y _ _ h1 h3 he
    subst exy
    exact Option.some.inj (h2.symm.trans h4)
  · obtain ⟨x, e, h1, h2⟩ := pos_of (T := T) (u := u) (qg := qg) (qc := qc) hi
    exact hD.2 x _ h1
/-- behind the first writes of the law -/
def hst : xH := xup (xup (xup (xup (xup (xup (xup (xup (xup (xup (xup (hini) 102 (2 : Int32).toNatClampNeg 5) 102 (3 : Int32).toNatClampNeg 10) 102 (4 : Int32).toNatClampNeg 30) 102 ((6 : Int32) + 0).toNatClampNeg 2) 102 ((10 : Int32) + 0).toNatClampNeg 1000) 102 ((6 : Int32) + 1).toNatClampNeg 2) 102 ((10 : Int32) + 1).toNatClampNeg 1000) 102 ((6 : Int32) + 2).toNatClampNeg 2) 102 ((10 : Int32) + 2).toNatClampNeg 1000) 102 ((6 : Int32) + 3).toNatClampNeg 2) 102 ((10 : Int32) + 3).toNatClampNeg 1000
theorem hs_S : ∀ s, s < 6 → hst (10 + s) 0 = nI s ∧ hst (10 + s) 1 = nI 5 ∧ hst (10 + s) 2 = nI 0 ∧ hst (10 + s) 3 = nI 0 ∧ hst (10 + s) 4 = nI 0 := by decide +kernel
theorem hs_R : ∀ r, r < 6 → hst (20 + r) 4 = nI 0 := by decide +kernel
theorem hs_F : ∀ q, q < 4 → hst (30 + q) 2 = nI 0 ∧ hst (30 + q) 5 = nI 2 ∧ hst (30 + q) 8 = nI 0 ∧ hst (30 + q) 7 = 0 ∧ ∀ j, j < 6 → hst (30 + q + 20) j = nI 0 := by decide +kernel
theorem hs_C : ∀ q, q < 4 → hst 102 (6 + q) = nI 2 := by decide +kernel
theorem hs_IV : IV 0 hst := by
  refine ⟨0, 5, 10, 30, 0, 0, 0, fun _ => 2, fun _ => 5, fun _ => 0, fun _ => 0, fun _ => 0, Nat.le_refl 0, ⟨⟨⟨by decide +kernel, by decide +kernel, by decide +kernel, by decide +kernel⟩, by decide, by decide, by decide, by decide, by decide, by decide, by decide⟩, fun s hs => ⟨hs_S s hs, Nat.le_refl 5, Nat.le_refl 0⟩, ⟨by decide +kernel, fun j hj => absurd hj (by omega)⟩, fun r hr => ⟨0, by decide, hs_R r hr⟩, fun q hq => ?_, ⟨0, 0, 0, 0, ⟨by decide +kernel, by decide +kernel, by decide +kernel, by decide +kernel, by decide +kernel⟩, ⟨by decide, by decide, by decide, by decide, by decide, by decide⟩, fun i hi => absurd hi (by omega), Or.inl rfl, fun _ => rfl⟩⟩, ⟨by decide, by decide, by decide⟩, ⟨⟨by decide +kernel, by decide +kernel, by decide +kernel, by decide +kernel, by decide +kernel, by decide +kernel⟩, fun q hq => hs_C q hq⟩⟩
  obtain ⟨a, b, c, d, e⟩ := hs_F q hq
  exact ⟨0, 0, fun _ => 0, fun _ => 0, ⟨a, b, c, d⟩, e, fun i hi => absurd hi (by omega), ⟨Nat.le_refl 0, Nat.zero_le _, Nat.le_of_ble_eq_true rfl, Nat.le_refl 0⟩, fun _ _ => Nat.le_refl 0, fun j hj => absurd hj (by omega), fun i hi => absurd hi (by omega), fun i i' _ hi => absurd hi (by omega)⟩
