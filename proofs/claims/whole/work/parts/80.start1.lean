/-! THE START: the constructors' worlds as ONE state -/
def WS5 (T : Nat → ClassId) (u : Nat → Nat) : va_W := [((u 0), .inr (5, [.ref (u 1), .ref (u 2), .ref (u 3), .ref (u 4), .ref (u 6), .int 0, .int 5, .int 10, .int 30])), ((u 1), .inl (T 3, 6, .inr (.inr (.inr (.inr (va_up (va_up (va_up (va_up (va_up (va_up (fun _ => none) (0 : Int32).toNatClampNeg (some (u 10))) (1 : Int32).toNatClampNeg (some (u 11))) (2 : Int32).toNatClampNeg (some (u 12))) (3 : Int32).toNatClampNeg (some (u 13))) (4 : Int32).toNatClampNeg (some (u 14))) (5 : Int32).toNatClampNeg (some (u 15)))))))), ((u 2), .inl (T 4, 6, .inr (.inr (.inr (.inr (va_up (va_up (va_up (va_up (va_up (va_up (fun _ => none) (0 : Int32).toNatClampNeg (some (u 20))) (1 : Int32).toNatClampNeg (some (u 21))) (2 : Int32).toNatClampNeg (some (u 22))) (3 : Int32).toNatClampNeg (some (u 23))) (4 : Int32).toNatClampNeg (some (u 24))) (5 : Int32).toNatClampNeg (some (u 25)))))))), ((u 3), .inl (T 5, 4, .inr (.inr (.inr (.inr (va_up (va_up (va_up (va_up (fun _ => none) (0 : Int32).toNatClampNeg (some (u 30))) (1 : Int32).toNatClampNeg (some (u 31))) (2 : Int32).toNatClampNeg (some (u 32))) (3 : Int32).toNatClampNeg (some (u 33)))))))), ((u 4), .inr (0, [.ref (u 5), .int 0, .int 0, .int 0, .int 0, .int 0])), ((u 5), .inl (T 0, 400, .inl (fun _ => 0))), ((u 6), .inr (1, [.ref (u 7), .ref (u 8), .int 0])), ((u 7), .inl (T 0, 400, .inl (fun _ => 0))), ((u 8), .inl (T 0, 400, .inl (fun _ => 0))), ((u 10), .inr (4, [.int 0, .int 5, .int 0, .int 0, .int 0, .int (-1), .int (-1), .int (-1), .int (-1)])), ((u 11), .inr (4, [.int 1, .int 5, .int 0, .int 0, .int 0, .int (-1), .int (-1), .int (-1), .int (-1)])), ((u 12), .inr (4, [.int 2, .int 5, .int 0, .int 0, .int 0, .int (-1), .int (-1), .int (-1), .int (-1)])), ((u 13), .inr (4, [.int 3, .int 5, .int 0, .int 0, .int 0, .int (-1), .int (-1), .int (-1), .int (-1)])), ((u 14), .inr (4, [.int 4, .int 5, .int 0, .int 0, .int 0, .int (-1), .int (-1), .int (-1), .int (-1)])), ((u 15), .inr (4, [.int 5, .int 5, .int 0, .int 0, .int 0, .int (-1), .int (-1), .int (-1), .int (-1)])), ((u 20), .inr (3, [.int 0, .int 0, .int 0, .int (-1), .int 0])), ((u 21), .inr (3, [.int 0, .int 0, .int 0, .int (-1), .int 0])), ((u 22), .inr (3, [.int 0, .int 0, .int 0, .int (-1), .int 0])), ((u 23), .inr (3, [.int 0, .int 0, .int 0, .int (-1), .int 0])), ((u 24), .inr (3, [.int 0, .int 0, .int 0, .int (-1), .int 0])), ((u 25), .inr (3, [.int 0, .int 0, .int 0, .int (-1), .int 0])), ((u 30), .inr (2, [.ref (u 40), .ref (u 50), .int 0, .int 1000, .int 0, .int 2, .int 0, .int 0, .int 0, .int 0])), ((u 40), .inl (T 0, 400, .inl (fun _ => 0))), ((u 50), .inl (T 0, 6, .inl (fun _ => 0))), ((u 31), .inr (2, [.ref (u 41), .ref (u 51), .int 0, .int 1000, .int 0, .int 2, .int 0, .int 0, .int 0, .int 0])), ((u 41), .inl (T 0, 400, .inl (fun _ => 0))), ((u 51), .inl (T 0, 6, .inl (fun _ => 0))), ((u 32), .inr (2, [.ref (u 42), .ref (u 52), .int 0, .int 1000, .int 0, .int 2, .int 0, .int 0, .int 0, .int 0])), ((u 42), .inl (T 0, 400, .inl (fun _ => 0))), ((u 52), .inl (T 0, 6, .inl (fun _ => 0))), ((u 33), .inr (2, [.ref (u 43), .ref (u 53), .int 0, .int 1000, .int 0, .int 2, .int 0, .int 0, .int 0, .int 0])), ((u 43), .inl (T 0, 400, .inl (fun _ => 0))), ((u 53), .inl (T 0, 6, .inl (fun _ => 0)))]
def WS6 (T : Nat → ClassId) (u : Nat → Nat) : va_W := [((u 60), .inr (6, [.int 0, .int 0, .int 5, .int 10, .int 30, .ref (u 65), .ref (u 66), .ref (u 67), .ref (u 68), .ref (u 69), .ref (u 70), .ref (u 71), .ref (u 72), .ref (u 73), .ref (u 74), .ref (u 75), .ref (u 76), .ref (u 77), .ref (u 78), .ref (u 79), .ref (u 80), .ref (u 81), .ref (u 82), .ref (u 83), .int 0, .ref (u 85), .int 0, .int 0, .int 0, .int 0, .int 0, .int 0, .ref (u 92), .ref (u 93)])), ((u 65), .inl (T 0, 6, .inl (upd (upd (upd (upd (upd (upd (fun _ => 0) (0 : Int32).toNatClampNeg 5) (1 : Int32).toNatClampNeg 5) (2 : Int32).toNatClampNeg 5) (3 : Int32).toNatClampNeg 5) (4 : Int32).toNatClampNeg 5) (5 : Int32).toNatClampNeg 5))), ((u 66), .inl (T 0, 6, .inl (fun _ => 0))), ((u 67), .inl (T 0, 6, .inl (fun _ => 0))), ((u 68), .inl (T 0, 6, .inl (fun _ => 0))), ((u 69), .inl (T 0, 6, .inl (upd (upd (upd (upd (upd (upd (fun _ => 0) (0 : Int32).toNatClampNeg (-1)) (1 : Int32).toNatClampNeg (-1)) (2 : Int32).toNatClampNeg (-1)) (3 : Int32).toNatClampNeg (-1)) (4 : Int32).toNatClampNeg (-1)) (5 : Int32).toNatClampNeg (-1)))), ((u 70), .inl (T 1, 6, .inl (fun _ => 0))), ((u 71), .inl (T 0, 6, .inl (fun _ => 0))), ((u 72), .inl (T 0, 6, .inl (fun _ => 0))), ((u 73), .inl (T 0, 6, .inl (fun _ => 0))), ((u 74), .inl (T 0, 6, .inl (fun _ => 0))), ((u 75), .inl (T 0, 4, .inl (upd (upd (upd (upd (fun _ => 0) (0 : Int32).toNatClampNeg 1000) (1 : Int32).toNatClampNeg 1000) (2 : Int32).toNatClampNeg 1000) (3 : Int32).toNatClampNeg 1000))), ((u 76), .inl (T 0, 4, .inl (fun _ => 0))), ((u 77), .inl (T 0, 4, .inl (upd (upd (upd (upd (fun _ => 0) (0 : Int32).toNatClampNeg 2) (1 : Int32).toNatClampNeg 2) (2 : Int32).toNatClampNeg 2) (3 : Int32).toNatClampNeg 2))), ((u 78), .inl (T 0, 4, .inl (fun _ => 0))), ((u 79), .inl (T 0, 4, .inl (fun _ => 0))), ((u 80), .inl (T 0, 4, .inl (fun _ => 0))), ((u 81), .inl (T 0, 28, .inl (fun _ => 0))), ((u 82), .inl (T 0, 1600, .inl (fun _ => 0))), ((u 83), .inl (T 0, 1600, .inl (fun _ => 0))), ((u 85), .inl (T 0, 400, .inl (fun _ => 0))), ((u 92), .inl (T 0, 400, .inl (fun _ => 0))), ((u 93), .inl (T 0, 400, .inl (fun _ => 0)))]
def xidl : List Nat := [0, 1, 2, 3, 4, 5, 6, 7, 8, 10, 11, 12, 13, 14, 15, 20, 21, 22, 23, 24, 25, 30, 40, 50, 31, 41, 51, 32, 42, 52, 33, 43, 53, 60, 65, 66, 67, 68, 69, 70, 71, 72, 73, 74, 75, 76, 77, 78, 79, 80, 81, 82, 83, 85, 92, 93, 100]
def adI (u v : Nat → Nat) (q : Nat) : Nat → Nat := fun k => if k < 60 then u k else if k < 100 then v k else q
def hini : xH := fun a b =>
  if a = 0 then (if b = 6 then 5 else if b = 7 then 10 else if b = 8 then 30 else 0)
  else if 10 ≤ a ∧ a < 16 then (if b = 0 then nI (a - 10) else if b = 1 then 5 else if 5 ≤ b then (-1) else 0)
  else if 20 ≤ a ∧ a < 26 then (if b = 3 then (-1) else 0)
  else if 30 ≤ a ∧ a < 34 then (if b = 3 then 1000 else if b = 5 then 2 else 0)
  else if a = 60 then (if b = 2 then 5 else if b = 3 then 10 else if b = 4 then 30 else 0)
  else if a = 65 then 5
  else if a = 69 then (-1)
  else if a = 75 then 1000
  else if a = 77 then 2
  else 0
def WSI (T : Nat → ClassId) (u v : Nat → Nat) (q : Nat) : va_W := WS5 T u ++ WS6 T v ++ [(q, .inl (T 2, 1, .inr (.inl (fun _ => 0))))]
theorem at_i {D : va_G} {cl : List vw_C} {a n : Nat} {cA : ClassId} {f g : Nat → Int32} {H : Heap} (h : va_at D cl (a, .inl (cA, n, .inl f)) H) (e : ∀ j, j < n → f j = g j) : va_at D cl (a, .inl (cA, n, .inl g)) H := by
  have h1 : H[a]? = some (vp_cell cA (n, .inl f)) := h
  show H[a]? = some (vp_cell cA (n, .inl g))
  rw [h1]
  simp only [vp_cell, arrV]
  congr 3
  funext j
  rw [e j.val j.isLt]
theorem at_q {D : va_G} {cl : List vw_C} {a n : Nat} {cA : ClassId} {f g : Nat → Option Nat} {H : Heap} (h : va_at D cl (a, .inl (cA, n, .inr (.inr (.inr (.inr f))))) H) (e : ∀ j, j < n → f j = g j) : va_at D cl (a, .inl (cA, n, .inr (.inr (.inr (.inr g))))) H := by
  have h1 : H[a]? = some (vp_cell cA (n, .inr (.inr (.inr (.inr f))))) := h
  show H[a]? = some (vp_cell cA (n, .inr (.inr (.inr (.inr g)))))
  rw [h1]
  simp only [vp_cell, arrV]
  congr 3
  funext j
  rw [e j.val j.isLt]
theorem at_l {D : va_G} {cl : List vw_C} {a n : Nat} {cA : ClassId} {f g : Nat → Int64} {H : Heap} (h : va_at D cl (a, .inl (cA, n, .inr (.inl f))) H) (e : ∀ j, j < n → f j = g j) : va_at D cl (a, .inl (cA, n, .inr (.inl g))) H := by
  have h1 : H[a]? = some (vp_cell cA (n, .inr (.inl f))) := h
  show H[a]? = some (vp_cell cA (n, .inr (.inl g)))
  rw [h1]
  simp only [vp_cell, arrV]
  congr 3
  funext j
  rw [e j.val j.isLt]
theorem cl_0 : (0 : Int32).toNatClampNeg = 0 := by decide
theorem cl_1 : (1 : Int32).toNatClampNeg = 1 := by decide
theorem cl_2 : (2 : Int32).toNatClampNeg = 2 := by decide
theorem cl_3 : (3 : Int32).toNatClampNeg = 3 := by decide
theorem cl_4 : (4 : Int32).toNatClampNeg = 4 := by decide
theorem cl_5 : (5 : Int32).toNatClampNeg = 5 := by decide
theorem xsh_lt {k : Nat} {sh : xSh} (h : xsh k = some sh) : k < 101 := by
  rcases Nat.lt_or_ge k 101 with q | q
  · exact q
  · exfalso
    rw [xsh, if_neg (by omega), if_neg (by omega), if_neg (by omega), if_neg (by omega), if_neg (by omega), if_neg (by omega), if_neg (by omega), if_neg (by omega), if_neg (by omega), if_neg (by omega), if_neg (by omega), if_neg (by omega), if_neg (by omega), if_neg (by omega), if_neg (by omega), if_neg (by omega), if_neg (by omega), if_neg (by omega), if_neg (by omega), if_neg (by omega), if_neg (by omega)] at h
    cases h
theorem xid_all : ∀ k, k < 101 → (xsh k).isSome = true → k ∈ xidl := by decide +kernel
theorem xid_mem {k : Nat} {sh : xSh} (h : xsh k = some sh) : k ∈ xidl := xid_all k (xsh_lt h) (by rw [h]; rfl)
set_option maxRecDepth 20000 in
theorem cell_0 {D : va_G} {T : Nat → ClassId} {u v : Nat → Nat} {q : Nat} {H : Heap} (hP : va_P D vwCl (WSI T u v q) H) : ∃ sh, xsh 0 = some sh ∧ va_at D vwCl (adI u v q 0, xent (adI u v q) T hini 0 sh) H := ⟨_, xs0, hP 0 _ rfl⟩
set_option maxRecDepth 20000 in
theorem cell_1 {D : va_G} {T : Nat → ClassId} {u v : Nat → Nat} {q : Nat} {H : Heap} (hP : va_P D vwCl (WSI T u v q) H) : ∃ sh, xsh 1 = some sh ∧ va_at D vwCl (adI u v q 1, xent (adI u v q) T hini 1 sh) H := ⟨_, xs1, at_q (hP 1 _ rfl) (fun j hj => by rcases (show j = 0 ∨ j = 1 ∨ j = 2 ∨ j = 3 ∨ j = 4 ∨ j = 5 by omega) with rfl | rfl | rfl | rfl | rfl | rfl <;> simp [va_up, cl_0, cl_1, cl_2, cl_3, cl_4, cl_5, adI])⟩
set_option maxRecDepth 20000 in
theorem cell_2 {D : va_G} {T : Nat → ClassId} {u v : Nat → Nat} {q : Nat} {H : Heap} (hP : va_P D vwCl (WSI T u v q) H) : ∃ sh, xsh 2 = some sh ∧ va_at D vwCl (adI u v q 2, xent (adI u v q) T hini 2 sh) H := ⟨_, xs2, at_q (hP 2 _ rfl) (fun j hj => by rcases (show j = 0 ∨ j = 1 ∨ j = 2 ∨ j = 3 ∨ j = 4 ∨ j = 5 by omega) with rfl | rfl | rfl | rfl | rfl | rfl <;> simp [va_up, cl_0, cl_1, cl_2, cl_3, cl_4, cl_5, adI])⟩
set_option maxRecDepth 20000 in
theorem cell_3 {D : va_G} {T : Nat → ClassId} {u v : Nat → Nat} {q : Nat} {H : Heap} (hP : va_P D vwCl (WSI T u v q) H) : ∃ sh, xsh 3 = some sh ∧ va_at D vwCl (adI u v q 3, xent (adI u v q) T hini 3 sh) H := ⟨_, xs3, at_q (hP 3 _ rfl) (fun j hj => by rcases (show j = 0 ∨ j = 1 ∨ j = 2 ∨ j = 3 by omega) with rfl | rfl | rfl | rfl <;> simp [va_up, cl_0, cl_1, cl_2, cl_3, cl_4, cl_5, adI])⟩
set_option maxRecDepth 20000 in
theorem cell_4 {D : va_G} {T : Nat → ClassId} {u v : Nat → Nat} {q : Nat} {H : Heap} (hP : va_P D vwCl (WSI T u v q) H) : ∃ sh, xsh 4 = some sh ∧ va_at D vwCl (adI u v q 4, xent (adI u v q) T hini 4 sh) H := ⟨_, xs4, hP 4 _ rfl⟩
set_option maxRecDepth 20000 in
theorem cell_5 {D : va_G} {T : Nat → ClassId} {u v : Nat → Nat} {q : Nat} {H : Heap} (hP : va_P D vwCl (WSI T u v q) H) : ∃ sh, xsh 5 = some sh ∧ va_at D vwCl (adI u v q 5, xent (adI u v q) T hini 5 sh) H := ⟨_, xs5, hP 5 _ rfl⟩
set_option maxRecDepth 20000 in
theorem cell_6 {D : va_G} {T : Nat → ClassId} {u v : Nat → Nat} {q : Nat} {H : Heap} (hP : va_P D vwCl (WSI T u v q) H) : ∃ sh, xsh 6 = some sh ∧ va_at D vwCl (adI u v q 6, xent (adI u v q) T hini 6 sh) H := ⟨_, xs6, hP 6 _ rfl⟩
set_option maxRecDepth 20000 in
theorem cell_7 {D : va_G} {T : Nat → ClassId} {u v : Nat → Nat} {q : Nat} {H : Heap} (hP : va_P D vwCl (WSI T u v q) H) : ∃ sh, xsh 7 = some sh ∧ va_at D vwCl (adI u v q 7, xent (adI u v q) T hini 7 sh) H := ⟨_, xs7, hP 7 _ rfl⟩
set_option maxRecDepth 20000 in
theorem cell_8 {D : va_G} {T : Nat → ClassId} {u v : Nat → Nat} {q : Nat} {H : Heap} (hP : va_P D vwCl (WSI T u v q) H) : ∃ sh, xsh 8 = some sh ∧ va_at D vwCl (adI u v q 8, xent (adI u v q) T hini 8 sh) H := ⟨_, xs8, hP 8 _ rfl⟩
set_option maxRecDepth 20000 in
theorem cell_10 {D : va_G} {T : Nat → ClassId} {u v : Nat → Nat} {q : Nat} {H : Heap} (hP : va_P D vwCl (WSI T u v q) H) : ∃ sh, xsh 10 = some sh ∧ va_at D vwCl (adI u v q 10, xent (adI u v q) T hini 10 sh) H := ⟨_, xsS (k := 10) (by decide), hP 9 _ rfl⟩
set_option maxRecDepth 20000 in
theorem cell_11 {D : va_G} {T : Nat → ClassId} {u v : Nat → Nat} {q : Nat} {H : Heap} (hP : va_P D vwCl (WSI T u v q) H) : ∃ sh, xsh 11 = some sh ∧ va_at D vwCl (adI u v q 11, xent (adI u v q) T hini 11 sh) H := ⟨_, xsS (k := 11) (by decide), hP 10 _ rfl⟩
set_option maxRecDepth 20000 in
theorem cell_12 {D : va_G} {T : Nat → ClassId} {u v : Nat → Nat} {q : Nat} {H : Heap} (hP : va_P D vwCl (WSI T u v q) H) : ∃ sh, xsh 12 = some sh ∧ va_at D vwCl (adI u v q 12, xent (adI u v q) T hini 12 sh) H := ⟨_, xsS (k := 12) (by decide), hP 11 _ rfl⟩
set_option maxRecDepth 20000 in
theorem cell_13 {D : va_G} {T : Nat → ClassId} {u v : Nat → Nat} {q : Nat} {H : Heap} (hP : va_P D vwCl (WSI T u v q) H) : ∃ sh, xsh 13 = some sh ∧ va_at D vwCl (adI u v q 13, xent (adI u v q) T hini 13 sh) H := ⟨_, xsS (k := 13) (by decide), hP 12 _ rfl⟩
set_option maxRecDepth 20000 in
theorem cell_14 {D : va_G} {T : Nat → ClassId} {u v : Nat → Nat} {q : Nat} {H : Heap} (hP : va_P D vwCl (WSI T u v q) H) : ∃ sh, xsh 14 = some sh ∧ va_at D vwCl (adI u v q 14, xent (adI u v q) T hini 14 sh) H := ⟨_, xsS (k := 14) (by decide), hP 13 _ rfl⟩
set_option maxRecDepth 20000 in
theorem cell_15 {D : va_G} {T : Nat → ClassId} {u v : Nat → Nat} {q : Nat} {H : Heap} (hP : va_P D vwCl (WSI T u v q) H) : ∃ sh, xsh 15 = some sh ∧ va_at D vwCl (adI u v q 15, xent (adI u v q) T hini 15 sh) H := ⟨_, xsS (k := 15) (by decide), hP 14 _ rfl⟩
set_option maxRecDepth 20000 in
theorem cell_20 {D : va_G} {T : Nat → ClassId} {u v : Nat → Nat} {q : Nat} {H : Heap} (hP : va_P D vwCl (WSI T u v q) H) : ∃ sh, xsh 20 = some sh ∧ va_at D vwCl (adI u v q 20, xent (adI u v q) T hini 20 sh) H := ⟨_, xsR (k := 20) (by decide), hP 15 _ rfl⟩
set_option maxRecDepth 20000 in
theorem cell_21 {D : va_G} {T : Nat → ClassId} {u v : Nat → Nat} {q : Nat} {H : Heap} (hP : va_P D vwCl (WSI T u v q) H) : ∃ sh, xsh 21 = some sh ∧ va_at D vwCl (adI u v q 21, xent (adI u v q) T hini 21 sh) H := ⟨_, xsR (k := 21) (by decide), hP 16 _ rfl⟩
set_option maxRecDepth 20000 in
theorem cell_22 {D : va_G} {T : Nat → ClassId} {u v : Nat → Nat} {q : Nat} {H : Heap} (hP : va_P D vwCl (WSI T u v q) H) : ∃ sh, xsh 22 = some sh ∧ va_at D vwCl (adI u v q 22, xent (adI u v q) T hini 22 sh) H := ⟨_, xsR (k := 22) (by decide), hP 17 _ rfl⟩
set_option maxRecDepth 20000 in
theorem cell_23 {D : va_G} {T : Nat → ClassId} {u v : Nat → Nat} {q : Nat} {H : Heap} (hP : va_P D vwCl (WSI T u v q) H) : ∃ sh, xsh 23 = some sh ∧ va_at D vwCl (adI u v q 23, xent (adI u v q) T hini 23 sh) H := ⟨_, xsR (k := 23) (by decide), hP 18 _ rfl⟩
set_option maxRecDepth 20000 in
theorem cell_24 {D : va_G} {T : Nat → ClassId} {u v : Nat → Nat} {q : Nat} {H : Heap} (hP : va_P D vwCl (WSI T u v q) H) : ∃ sh, xsh 24 = some sh ∧ va_at D vwCl (adI u v q 24, xent (adI u v q) T hini 24 sh) H := ⟨_, xsR (k := 24) (by decide), hP 19 _ rfl⟩
set_option maxRecDepth 20000 in
theorem cell_25 {D : va_G} {T : Nat → ClassId} {u v : Nat → Nat} {q : Nat} {H : Heap} (hP : va_P D vwCl (WSI T u v q) H) : ∃ sh, xsh 25 = some sh ∧ va_at D vwCl (adI u v q 25, xent (adI u v q) T hini 25 sh) H := ⟨_, xsR (k := 25) (by decide), hP 20 _ rfl⟩
set_option maxRecDepth 20000 in
theorem cell_30 {D : va_G} {T : Nat → ClassId} {u v : Nat → Nat} {q : Nat} {H : Heap} (hP : va_P D vwCl (WSI T u v q) H) : ∃ sh, xsh 30 = some sh ∧ va_at D vwCl (adI u v q 30, xent (adI u v q) T hini 30 sh) H := ⟨_, xsF (k := 30) (by decide), hP 21 _ rfl⟩
set_option maxRecDepth 20000 in
theorem cell_40 {D : va_G} {T : Nat → ClassId} {u v : Nat → Nat} {q : Nat} {H : Heap} (hP : va_P D vwCl (WSI T u v q) H) : ∃ sh, xsh 40 = some sh ∧ va_at D vwCl (adI u v q 40, xent (adI u v q) T hini 40 sh) H := ⟨_, xsFr (k := 30) (by decide), hP 22 _ rfl⟩
set_option maxRecDepth 20000 in
theorem cell_50 {D : va_G} {T : Nat → ClassId} {u v : Nat → Nat} {q : Nat} {H : Heap} (hP : va_P D vwCl (WSI T u v q) H) : ∃ sh, xsh 50 = some sh ∧ va_at D vwCl (adI u v q 50, xent (adI u v q) T hini 50 sh) H := ⟨_, xsFs (k := 30) (by decide), hP 23 _ rfl⟩
set_option maxRecDepth 20000 in
theorem cell_31 {D : va_G} {T : Nat → ClassId} {u v : Nat → Nat} {q : Nat} {H : Heap} (hP : va_P D vwCl (WSI T u v q) H) : ∃ sh, xsh 31 = some sh ∧ va_at D vwCl (adI u v q 31, xent (adI u v q) T hini 31 sh) H := ⟨_, xsF (k := 31) (by decide), hP 24 _ rfl⟩
set_option maxRecDepth 20000 in
theorem cell_41 {D : va_G} {T : Nat → ClassId} {u v : Nat → Nat} {q : Nat} {H : Heap} (hP : va_P D vwCl (WSI T u v q) H) : ∃ sh, xsh 41 = some sh ∧ va_at D vwCl (adI u v q 41, xent (adI u v q) T hini 41 sh) H := ⟨_, xsFr (k := 31) (by decide), hP 25 _ rfl⟩
set_option maxRecDepth 20000 in
theorem cell_51 {D : va_G} {T : Nat → ClassId} {u v : Nat → Nat} {q : Nat} {H : Heap} (hP : va_P D vwCl (WSI T u v q) H) : ∃ sh, xsh 51 = some sh ∧ va_at D vwCl (adI u v q 51, xent (adI u v q) T hini 51 sh) H := ⟨_, xsFs (k := 31) (by decide), hP 26 _ rfl⟩
set_option maxRecDepth 20000 in
theorem cell_32 {D : va_G} {T : Nat → ClassId} {u v : Nat → Nat} {q : Nat} {H : Heap} (hP : va_P D vwCl (WSI T u v q) H) : ∃ sh, xsh 32 = some sh ∧ va_at D vwCl (adI u v q 32, xent (adI u v q) T hini 32 sh) H := ⟨_, xsF (k := 32) (by decide), hP 27 _ rfl⟩
set_option maxRecDepth 20000 in
theorem cell_42 {D : va_G} {T : Nat → ClassId} {u v : Nat → Nat} {q : Nat} {H : Heap} (hP : va_P D vwCl (WSI T u v q) H) : ∃ sh, xsh 42 = some sh ∧ va_at D vwCl (adI u v q 42, xent (adI u v q) T hini 42 sh) H := ⟨_, xsFr (k := 32) (by decide), hP 28 _ rfl⟩
set_option maxRecDepth 20000 in
theorem cell_52 {D : va_G} {T : Nat → ClassId} {u v : Nat → Nat} {q : Nat} {H : Heap} (hP : va_P D vwCl (WSI T u v q) H) : ∃ sh, xsh 52 = some sh ∧ va_at D vwCl (adI u v q 52, xent (adI u v q) T hini 52 sh) H := ⟨_, xsFs (k := 32) (by decide), hP 29 _ rfl⟩
set_option maxRecDepth 20000 in
theorem cell_33 {D : va_G} {T : Nat → ClassId} {u v : Nat → Nat} {q : Nat} {H : Heap} (hP : va_P D vwCl (WSI T u v q) H) : ∃ sh, xsh 33 = some sh ∧ va_at D vwCl (adI u v q 33, xent (adI u v q) T hini 33 sh) H := ⟨_, xsF (k := 33) (by decide), hP 30 _ rfl⟩
set_option maxRecDepth 20000 in
theorem cell_43 {D : va_G} {T : Nat → ClassId} {u v : Nat → Nat} {q : Nat} {H : Heap} (hP : va_P D vwCl (WSI T u v q) H) : ∃ sh, xsh 43 = some sh ∧ va_at D vwCl (adI u v q 43, xent (adI u v q) T hini 43 sh) H := ⟨_, xsFr (k := 33) (by decide), hP 31 _ rfl⟩
set_option maxRecDepth 20000 in
theorem cell_53 {D : va_G} {T : Nat → ClassId} {u v : Nat → Nat} {q : Nat} {H : Heap} (hP : va_P D vwCl (WSI T u v q) H) : ∃ sh, xsh 53 = some sh ∧ va_at D vwCl (adI u v q 53, xent (adI u v q) T hini 53 sh) H := ⟨_, xsFs (k := 33) (by decide), hP 32 _ rfl⟩
set_option maxHeartbeats 8000000 in
set_option maxRecDepth 20000 in
theorem cell_60 {D : va_G} {T : Nat → ClassId} {u v : Nat → Nat} {q : Nat} {H : Heap} (hP : va_P D vwCl (WSI T u v q) H) : ∃ sh, xsh 60 = some sh ∧ va_at D vwCl (adI u v q 60, xent (adI u v q) T hini 60 sh) H := by
  refine ⟨_, xs60, ?_⟩
  have e : xfs (adI u v q) hini 60 [none, none, none, none, none, some 65, some 66, some 67, some 68, some 69, some 70, some 71, some 72, some 73, some 74, some 75, some 76, some 77, some 78, some 79, some 80, some 81, some 82, some 83, none, some 85, none, none, none, none, none, none, some 92, some 93] = [.int 0, .int 0, .int 5, .int 10, .int 30, .ref (v 65), .ref (v 66), .ref (v 67), .ref (v 68), .ref (v 69), .ref (v 70), .ref (v 71), .ref (v 72), .ref (v 73), .ref (v 74), .ref (v 75), .ref (v 76), .ref (v 77), .ref (v 78), .ref (v 79), .ref (v 80), .ref (v 81), .ref (v 82), .ref (v 83), .int 0, .ref (v 85), .int 0, .int 0, .int 0, .int 0, .int 0, .int 0, .ref (v 92), .ref (v 93)] := by simp [xfs, xfv, adI, hini]
  have h := hP 33 _ rfl
  show va_at D vwCl (adI u v q 60, .inr (6, xfs (adI u v q) hini 60 [none, none, none, none, none, some 65, some 66, some 67, some 68, some 69, some 70, some 71, some 72, some 73, some 74, some 75, some 76, some 77, some 78, some 79, some 80, some 81, some 82, some 83, none, some 85, none, none, none, none, none, none, some 92, some 93])) H
  rw [e]
  exact h
set_option maxRecDepth 20000 in
theorem cell_65 {D : va_G} {T : Nat → ClassId} {u v : Nat → Nat} {q : Nat} {H : Heap} (hP : va_P D vwCl (WSI T u v q) H) : ∃ sh, xsh 65 = some sh ∧ va_at D vwCl (adI u v q 65, xent (adI u v q) T hini 65 sh) H := ⟨_, xs65, at_i (hP 34 _ rfl) (fun j hj => by rcases (show j = 0 ∨ j = 1 ∨ j = 2 ∨ j = 3 ∨ j = 4 ∨ j = 5 by omega) with rfl | rfl | rfl | rfl | rfl | rfl <;> decide +kernel)⟩
set_option maxRecDepth 20000 in
theorem cell_66 {D : va_G} {T : Nat → ClassId} {u v : Nat → Nat} {q : Nat} {H : Heap} (hP : va_P D vwCl (WSI T u v q) H) : ∃ sh, xsh 66 = some sh ∧ va_at D vwCl (adI u v q 66, xent (adI u v q) T hini 66 sh) H := ⟨_, xs66, hP 35 _ rfl⟩
set_option maxRecDepth 20000 in
theorem cell_67 {D : va_G} {T : Nat → ClassId} {u v : Nat → Nat} {q : Nat} {H : Heap} (hP : va_P D vwCl (WSI T u v q) H) : ∃ sh, xsh 67 = some sh ∧ va_at D vwCl (adI u v q 67, xent (adI u v q) T hini 67 sh) H := ⟨_, xs67, hP 36 _ rfl⟩
set_option maxRecDepth 20000 in
theorem cell_68 {D : va_G} {T : Nat → ClassId} {u v : Nat → Nat} {q : Nat} {H : Heap} (hP : va_P D vwCl (WSI T u v q) H) : ∃ sh, xsh 68 = some sh ∧ va_at D vwCl (adI u v q 68, xent (adI u v q) T hini 68 sh) H := ⟨_, xs68, hP 37 _ rfl⟩
set_option maxRecDepth 20000 in
theorem cell_69 {D : va_G} {T : Nat → ClassId} {u v : Nat → Nat} {q : Nat} {H : Heap} (hP : va_P D vwCl (WSI T u v q) H) : ∃ sh, xsh 69 = some sh ∧ va_at D vwCl (adI u v q 69, xent (adI u v q) T hini 69 sh) H := ⟨_, xs69, at_i (hP 38 _ rfl) (fun j hj => by rcases (show j = 0 ∨ j = 1 ∨ j = 2 ∨ j = 3 ∨ j = 4 ∨ j = 5 by omega) with rfl | rfl | rfl | rfl | rfl | rfl <;> decide +kernel)⟩
set_option maxRecDepth 20000 in
theorem cell_70 {D : va_G} {T : Nat → ClassId} {u v : Nat → Nat} {q : Nat} {H : Heap} (hP : va_P D vwCl (WSI T u v q) H) : ∃ sh, xsh 70 = some sh ∧ va_at D vwCl (adI u v q 70, xent (adI u v q) T hini 70 sh) H := ⟨_, xs70, hP 39 _ rfl⟩
set_option maxRecDepth 20000 in
theorem cell_71 {D : va_G} {T : Nat → ClassId} {u v : Nat → Nat} {q : Nat} {H : Heap} (hP : va_P D vwCl (WSI T u v q) H) : ∃ sh, xsh 71 = some sh ∧ va_at D vwCl (adI u v q 71, xent (adI u v q) T hini 71 sh) H := ⟨_, xs71, hP 40 _ rfl⟩
set_option maxRecDepth 20000 in
theorem cell_72 {D : va_G} {T : Nat → ClassId} {u v : Nat → Nat} {q : Nat} {H : Heap} (hP : va_P D vwCl (WSI T u v q) H) : ∃ sh, xsh 72 = some sh ∧ va_at D vwCl (adI u v q 72, xent (adI u v q) T hini 72 sh) H := ⟨_, xs72, hP 41 _ rfl⟩
set_option maxRecDepth 20000 in
theorem cell_73 {D : va_G} {T : Nat → ClassId} {u v : Nat → Nat} {q : Nat} {H : Heap} (hP : va_P D vwCl (WSI T u v q) H) : ∃ sh, xsh 73 = some sh ∧ va_at D vwCl (adI u v q 73, xent (adI u v q) T hini 73 sh) H := ⟨_, xs73, hP 42 _ rfl⟩
set_option maxRecDepth 20000 in
theorem cell_74 {D : va_G} {T : Nat → ClassId} {u v : Nat → Nat} {q : Nat} {H : Heap} (hP : va_P D vwCl (WSI T u v q) H) : ∃ sh, xsh 74 = some sh ∧ va_at D vwCl (adI u v q 74, xent (adI u v q) T hini 74 sh) H := ⟨_, xs74, hP 43 _ rfl⟩
set_option maxRecDepth 20000 in
theorem cell_75 {D : va_G} {T : Nat → ClassId} {u v : Nat → Nat} {q : Nat} {H : Heap} (hP : va_P D vwCl (WSI T u v q) H) : ∃ sh, xsh 75 = some sh ∧ va_at D vwCl (adI u v q 75, xent (adI u v q) T hini 75 sh) H := ⟨_, xs75, at_i (hP 44 _ rfl) (fun j hj => by rcases (show j = 0 ∨ j = 1 ∨ j = 2 ∨ j = 3 by omega) with rfl | rfl | rfl | rfl <;> decide +kernel)⟩
set_option maxRecDepth 20000 in
theorem cell_76 {D : va_G} {T : Nat → ClassId} {u v : Nat → Nat} {q : Nat} {H : Heap} (hP : va_P D vwCl (WSI T u v q) H) : ∃ sh, xsh 76 = some sh ∧ va_at D vwCl (adI u v q 76, xent (adI u v q) T hini 76 sh) H := ⟨_, xs76, hP 45 _ rfl⟩
set_option maxRecDepth 20000 in
theorem cell_77 {D : va_G} {T : Nat → ClassId} {u v : Nat → Nat} {q : Nat} {H : Heap} (hP : va_P D vwCl (WSI T u v q) H) : ∃ sh, xsh 77 = some sh ∧ va_at D vwCl (adI u v q 77, xent (adI u v q) T hini 77 sh) H := ⟨_, xs77, at_i (hP 46 _ rfl) (fun j hj => by rcases (show j = 0 ∨ j = 1 ∨ j = 2 ∨ j = 3 by omega) with rfl | rfl | rfl | rfl <;> decide +kernel)⟩
set_option maxRecDepth 20000 in
theorem cell_78 {D : va_G} {T : Nat → ClassId} {u v : Nat → Nat} {q : Nat} {H : Heap} (hP : va_P D vwCl (WSI T u v q) H) : ∃ sh, xsh 78 = some sh ∧ va_at D vwCl (adI u v q 78, xent (adI u v q) T hini 78 sh) H := ⟨_, xs78, hP 47 _ rfl⟩
set_option maxRecDepth 20000 in
theorem cell_79 {D : va_G} {T : Nat → ClassId} {u v : Nat → Nat} {q : Nat} {H : Heap} (hP : va_P D vwCl (WSI T u v q) H) : ∃ sh, xsh 79 = some sh ∧ va_at D vwCl (adI u v q 79, xent (adI u v q) T hini 79 sh) H := ⟨_, xs79, hP 48 _ rfl⟩
set_option maxRecDepth 20000 in
theorem cell_80 {D : va_G} {T : Nat → ClassId} {u v : Nat → Nat} {q : Nat} {H : Heap} (hP : va_P D vwCl (WSI T u v q) H) : ∃ sh, xsh 80 = some sh ∧ va_at D vwCl (adI u v q 80, xent (adI u v q) T hini 80 sh) H := ⟨_, xs80, hP 49 _ rfl⟩
set_option maxRecDepth 20000 in
theorem cell_81 {D : va_G} {T : Nat → ClassId} {u v : Nat → Nat} {q : Nat} {H : Heap} (hP : va_P D vwCl (WSI T u v q) H) : ∃ sh, xsh 81 = some sh ∧ va_at D vwCl (adI u v q 81, xent (adI u v q) T hini 81 sh) H := ⟨_, xs81, hP 50 _ rfl⟩
set_option maxRecDepth 20000 in
theorem cell_82 {D : va_G} {T : Nat → ClassId} {u v : Nat → Nat} {q : Nat} {H : Heap} (hP : va_P D vwCl (WSI T u v q) H) : ∃ sh, xsh 82 = some sh ∧ va_at D vwCl (adI u v q 82, xent (adI u v q) T hini 82 sh) H := ⟨_, xs82, hP 51 _ rfl⟩
set_option maxRecDepth 20000 in
theorem cell_83 {D : va_G} {T : Nat → ClassId} {u v : Nat → Nat} {q : Nat} {H : Heap} (hP : va_P D vwCl (WSI T u v q) H) : ∃ sh, xsh 83 = some sh ∧ va_at D vwCl (adI u v q 83, xent (adI u v q) T hini 83 sh) H := ⟨_, xs83, hP 52 _ rfl⟩
set_option maxRecDepth 20000 in
theorem cell_85 {D : va_G} {T : Nat → ClassId} {u v : Nat → Nat} {q : Nat} {H : Heap} (hP : va_P D vwCl (WSI T u v q) H) : ∃ sh, xsh 85 = some sh ∧ va_at D vwCl (adI u v q 85, xent (adI u v q) T hini 85 sh) H := ⟨_, xs85, hP 53 _ rfl⟩
set_option maxRecDepth 20000 in
theorem cell_92 {D : va_G} {T : Nat → ClassId} {u v : Nat → Nat} {q : Nat} {H : Heap} (hP : va_P D vwCl (WSI T u v q) H) : ∃ sh, xsh 92 = some sh ∧ va_at D vwCl (adI u v q 92, xent (adI u v q) T hini 92 sh) H := ⟨_, xs92, hP 54 _ rfl⟩
set_option maxRecDepth 20000 in
theorem cell_93 {D : va_G} {T : Nat → ClassId} {u v : Nat → Nat} {q : Nat} {H : Heap} (hP : va_P D vwCl (WSI T u v q) H) : ∃ sh, xsh 93 = some sh ∧ va_at D vwCl (adI u v q 93, xent (adI u v q) T hini 93 sh) H := ⟨_, xs93, hP 55 _ rfl⟩
set_option maxRecDepth 20000 in
theorem cell_100 {D : va_G} {T : Nat → ClassId} {u v : Nat → Nat} {q : Nat} {H : Heap} (hP : va_P D vwCl (WSI T u v q) H) : ∃ sh, xsh 100 = some sh ∧ va_at D vwCl (adI u v q 100, xent (adI u v q) T hini 100 sh) H := ⟨_, xs100, at_l (f := fun _ => 0) (hP 56 _ rfl) (fun j hj => by rcases (show j = 0 by omega) with rfl; rfl)⟩
theorem xp_of {D : va_G} {T : Nat → ClassId} {u v : Nat → Nat} {q : Nat} {H : Heap} (hP : va_P D vwCl (WSI T u v q) H) : XP (adI u v q) D T hini H := by
  intro k sh hs
  have hk := xid_mem hs
  simp only [xidl, List.mem_cons, List.not_mem_nil, or_false] at hk
  rcases hk with rfl | rfl | rfl | rfl | rfl | rfl | rfl | rfl | rfl | rfl | rfl | rfl | rfl | rfl | rfl | rfl | rfl | rfl | rfl | rfl | rfl | rfl | rfl | rfl | rfl | rfl | rfl | rfl | rfl | rfl | rfl | rfl | rfl | rfl | rfl | rfl | rfl | rfl | rfl | rfl | rfl | rfl | rfl | rfl | rfl | rfl | rfl | rfl | rfl | rfl | rfl | rfl | rfl | rfl | rfl | rfl | rfl
  · obtain ⟨sh', e, h⟩ := cell_0 hP; cases e.symm.trans hs; exact h
  · obtain ⟨sh', e, h⟩ := cell_1 hP; cases e.symm.trans hs; exact h
  · obtain ⟨sh', e, h⟩ := cell_2 hP; cases e.symm.trans hs; exact h
  · obtain ⟨sh', e, h⟩ := cell_3 hP; cases e.symm.trans hs; exact h
  · obtain ⟨sh', e, h⟩ := cell_4 hP; cases e.symm.trans hs; exact h
  · obtain ⟨sh', e, h⟩ := cell_5 hP; cases e.symm.trans hs; exact h
  · obtain ⟨sh', e, h⟩ := cell_6 hP; cases e.symm.trans hs; exact h
  · obtain ⟨sh', e, h⟩ := cell_7 hP; cases e.symm.trans hs; exact h
  · obtain ⟨sh', e, h⟩ := cell_8 hP; cases e.symm.trans hs; exact h
  · obtain ⟨sh', e, h⟩ := cell_10 hP; cases e.symm.trans hs; exact h
  · obtain ⟨sh', e, h⟩ := cell_11 hP; cases e.symm.trans hs; exact h
  · obtain ⟨sh', e, h⟩ := cell_12 hP; cases e.symm.trans hs; exact h
  · obtain ⟨sh', e, h⟩ := cell_13 hP; cases e.symm.trans hs; exact h
  · obtain ⟨sh', e, h⟩ := cell_14 hP; cases e.symm.trans hs; exact h
  · obtain ⟨sh', e, h⟩ := cell_15 hP; cases e.symm.trans hs; exact h
  · obtain ⟨sh', e, h⟩ := cell_20 hP; cases e.symm.trans hs; exact h
  · obtain ⟨sh', e, h⟩ := cell_21 hP; cases e.symm.trans hs; exact h
  · obtain ⟨sh', e, h⟩ := cell_22 hP; cases e.symm.trans hs; exact h
  · obtain ⟨sh', e, h⟩ := cell_23 hP; cases e.symm.trans hs; exact h
  · obtain ⟨sh', e, h⟩ := cell_24 hP; cases e.symm.trans hs; exact h
  · obtain ⟨sh', e, h⟩ := cell_25 hP; cases e.symm.trans hs; exact h
  · obtain ⟨sh', e, h⟩ := cell_30 hP; cases e.symm.trans hs; exact h
  · obtain ⟨sh', e, h⟩ := cell_40 hP; cases e.symm.trans hs; exact h
  · obtain ⟨sh', e, h⟩ := cell_50 hP; cases e.symm.trans hs; exact h
  · obtain ⟨sh', e, h⟩ := cell_31 hP; cases e.symm.trans hs; exact h
  · obtain ⟨sh', e, h⟩ := cell_41 hP; cases e.symm.trans hs; exact h
  · obtain ⟨sh', e, h⟩ := cell_51 hP; cases e.symm.trans hs; exact h
  · obtain ⟨sh', e, h⟩ := cell_32 hP; cases e.symm.trans hs; exact h
  · obtain ⟨sh', e, h⟩ := cell_42 hP; cases e.symm.trans hs; exact h
  · obtain ⟨sh', e, h⟩ := cell_52 hP; cases e.symm.trans hs; exact h
  · obtain ⟨sh', e, h⟩ := cell_33 hP; cases e.symm.trans hs; exact h
  · obtain ⟨sh', e, h⟩ := cell_43 hP; cases e.symm.trans hs; exact h
  · obtain ⟨sh', e, h⟩ := cell_53 hP; cases e.symm.trans hs; exact h
  · obtain ⟨sh', e, h⟩ := cell_60 hP; cases e.symm.trans hs; exact h
  · obtain ⟨sh', e, h⟩ := cell_65 hP; cases e.symm.trans hs; exact h
  · obtain ⟨sh', e, h⟩ := cell_66 hP; cases e.symm.trans hs; exact h
  · obtain ⟨sh', e, h⟩ := cell_67 hP; cases e.symm.trans hs; exact h
  · obtain ⟨sh', e, h⟩ := cell_68 hP; cases e.symm.trans hs; exact h
  · obtain ⟨sh', e, h⟩ := cell_69 hP; cases e.symm.trans hs; exact h
  · obtain ⟨sh', e, h⟩ := cell_70 hP; cases e.symm.trans hs; exact h
  · obtain ⟨sh', e, h⟩ := cell_71 hP; cases e.symm.trans hs; exact h
  · obtain ⟨sh', e, h⟩ := cell_72 hP; cases e.symm.trans hs; exact h
  · obtain ⟨sh', e, h⟩ := cell_73 hP; cases e.symm.trans hs; exact h
  · obtain ⟨sh', e, h⟩ := cell_74 hP; cases e.symm.trans hs; exact h
  · obtain ⟨sh', e, h⟩ := cell_75 hP; cases e.symm.trans hs; exact h
  · obtain ⟨sh', e, h⟩ := cell_76 hP; cases e.symm.trans hs; exact h
  · obtain ⟨sh', e, h⟩ := cell_77 hP; cases e.symm.trans hs; exact h
  · obtain ⟨sh', e, h⟩ := cell_78 hP; cases e.symm.trans hs; exact h
  · obtain ⟨sh', e, h⟩ := cell_79 hP; cases e.symm.trans hs; exact h
  · obtain ⟨sh', e, h⟩ := cell_80 hP; cases e.symm.trans hs; exact h
  · obtain ⟨sh', e, h⟩ := cell_81 hP; cases e.symm.trans hs; exact h
  · obtain ⟨sh', e, h⟩ := cell_82 hP; cases e.symm.trans hs; exact h
  · obtain ⟨sh', e, h⟩ := cell_83 hP; cases e.symm.trans hs; exact h
  · obtain ⟨sh', e, h⟩ := cell_85 hP; cases e.symm.trans hs; exact h
  · obtain ⟨sh', e, h⟩ := cell_92 hP; cases e.symm.trans hs; exact h
  · obtain ⟨sh', e, h⟩ := cell_93 hP; cases e.symm.trans hs; exact h
  · obtain ⟨sh', e, h⟩ := cell_100 hP; cases e.symm.trans hs; exact h
theorem pos_of {T : Nat → ClassId} {u v : Nat → Nat} {q k : Nat} {sh : xSh} (hs : xsh k = some sh) : ∃ (i : Nat) (e : va_E), (WSI T u v q)[i]? = some (adI u v q k, e) ∧ xidl[i]? = some k := by
  have hk := xid_mem hs
  simp only [xidl, List.mem_cons, List.not_mem_nil, or_false] at hk
  rcases hk with rfl | rfl | rfl | rfl | rfl | rfl | rfl | rfl | rfl | rfl | rfl | rfl | rfl | rfl | rfl | rfl | rfl | rfl | rfl | rfl | rfl | rfl | rfl | rfl | rfl | rfl | rfl | rfl | rfl | rfl | rfl | rfl | rfl | rfl | rfl | rfl | rfl | rfl | rfl | rfl | rfl | rfl | rfl | rfl | rfl | rfl | rfl | rfl | rfl | rfl | rfl | rfl | rfl | rfl | rfl | rfl | rfl
  · exact ⟨0, _, rfl, rfl⟩
  · exact ⟨1, _, rfl, rfl⟩
  · exact ⟨2, _, rfl, rfl⟩
  · exact ⟨3, _, rfl, rfl⟩
  · exact ⟨4, _, rfl, rfl⟩
  · exact ⟨5, _, rfl, rfl⟩
  · exact ⟨6, _, rfl, rfl⟩
  · exact ⟨7, _, rfl, rfl⟩
  · exact ⟨8, _, rfl, rfl⟩
  · exact ⟨9, _, rfl, rfl⟩
  · exact ⟨10, _, rfl, rfl⟩
  · exact ⟨11, _, rfl, rfl⟩
  · exact ⟨12, _, rfl, rfl⟩
  · exact ⟨13, _, rfl, rfl⟩
  · exact ⟨14, _, rfl, rfl⟩
  · exact ⟨15, _, rfl, rfl⟩
  · exact ⟨16, _, rfl, rfl⟩
  · exact ⟨17, _, rfl, rfl⟩
  · exact ⟨18, _, rfl, rfl⟩
  · exact ⟨19, _, rfl, rfl⟩
  · exact ⟨20, _, rfl, rfl⟩
  · exact ⟨21, _, rfl, rfl⟩
  · exact ⟨22, _, rfl, rfl⟩
  · exact ⟨23, _, rfl, rfl⟩
  · exact ⟨24, _, rfl, rfl⟩
  · exact ⟨25, _, rfl, rfl⟩
  · exact ⟨26, _, rfl, rfl⟩
  · exact ⟨27, _, rfl, rfl⟩
  · exact ⟨28, _, rfl, rfl⟩
  · exact ⟨29, _, rfl, rfl⟩
  · exact ⟨30, _, rfl, rfl⟩
  · exact ⟨31, _, rfl, rfl⟩
  · exact ⟨32, _, rfl, rfl⟩
  · exact ⟨33, _, rfl, rfl⟩
  · exact ⟨34, _, rfl, rfl⟩
  · exact ⟨35, _, rfl, rfl⟩
  · exact ⟨36, _, rfl, rfl⟩
  · exact ⟨37, _, rfl, rfl⟩
  · exact ⟨38, _, rfl, rfl⟩
  · exact ⟨39, _, rfl, rfl⟩
  · exact ⟨40, _, rfl, rfl⟩
  · exact ⟨41, _, rfl, rfl⟩
  · exact ⟨42, _, rfl, rfl⟩
  · exact ⟨43, _, rfl, rfl⟩
  · exact ⟨44, _, rfl, rfl⟩
  · exact ⟨45, _, rfl, rfl⟩
  · exact ⟨46, _, rfl, rfl⟩
  · exact ⟨47, _, rfl, rfl⟩
  · exact ⟨48, _, rfl, rfl⟩
  · exact ⟨49, _, rfl, rfl⟩
  · exact ⟨50, _, rfl, rfl⟩
  · exact ⟨51, _, rfl, rfl⟩
  · exact ⟨52, _, rfl, rfl⟩
  · exact ⟨53, _, rfl, rfl⟩
  · exact ⟨54, _, rfl, rfl⟩
  · exact ⟨55, _, rfl, rfl⟩
  · exact ⟨56, _, rfl, rfl⟩
theorem xa_of {B0 : Nat} {T : Nat → ClassId} {u v : Nat → Nat} {q : Nat} (hD : va_D (fun a => B0 ≤ a) (WSI T u v q)) : XA B0 (adI u v q) := by
  refine ⟨fun i j a b hi hj he => ?_, fun i a hi => ?_⟩
  · obtain ⟨x, e, h1, h2⟩ := pos_of (T := T) (u := u) (v := v) (q := q) hi
    obtain ⟨y, f, h3, h4⟩ := pos_of (T := T) (u := u) (v := v) (q := q) hj
    have exy := hD.1 x y _ _ h1 h3 he
    subst exy
    exact Option.some.inj (h2.symm.trans h4)
  · obtain ⟨x, e, h1, h2⟩ := pos_of (T := T) (u := u) (v := v) (q := q) hi
    exact hD.2 x _ h1
