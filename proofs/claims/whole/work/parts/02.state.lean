/-! THE STATIC WORLD: all objects of the class and of the reference are made in constructors; each has a number (its id); `ad` gives the address of an id; the whole mutable state is one function `xH`: id, place (slot or index) to int. -/
abbrev xH : Type := Nat → Nat → Int32
def xup (h : xH) (k j : Nat) (x : Int32) : xH := fun a b => if a = k then (if b = j then x else h a b) else h a b
theorem xup_same {h : xH} {k j : Nat} {x : Int32} : xup h k j x k j = x := by simp [xup]
theorem xup_ne {h : xH} {k j a b : Nat} {x : Int32} (hn : a ≠ k ∨ b ≠ j) : xup h k j x a b = h a b := by
  unfold xup
  by_cases h1 : a = k
  · by_cases h2 : b = j
    · exact absurd h2 (hn.resolve_left (fun q => q h1))
    · rw [if_pos h1, if_neg h2]
  · rw [if_neg h1]
abbrev xL : Type := List (Option Nat)
abbrev xSh : Type := (Nat × Nat × Option Nat) ⊕ (Nat × xL)
/-- the shape of each id: an array (kind, length, of references: the first id) or an object (class, fields: none an int, some q a reference to q) -/
def xsh (k : Nat) : Option xSh :=
  if 10 ≤ k ∧ k < 16 then some (.inr (4, [none, none, none, none, none, none, none, none, none]))
  else if 20 ≤ k ∧ k < 26 then some (.inr (3, [none, none, none, none, none]))
  else if 30 ≤ k ∧ k < 34 then some (.inr (2, [some (k + 10), some (k + 20), none, none, none, none, none, none, none, none]))
  else if 40 ≤ k ∧ k < 44 then some (.inl (0, 400, none))
  else if 50 ≤ k ∧ k < 54 then some (.inl (0, 6, none))
  else if k = 0 then some (.inr (5, [some 1, some 2, some 3, some 4, some 6, none, none, none, none]))
  else if k = 1 then some (.inl (3, 6, some 10))
  else if k = 2 then some (.inl (4, 6, some 20))
  else if k = 3 then some (.inl (5, 4, some 30))
  else if k = 4 then some (.inr (0, [some 5, none, none, none, none, none]))
  else if k = 5 ∨ k = 7 ∨ k = 8 then some (.inl (0, 400, none))
  else if k = 6 then some (.inr (1, [some 7, some 8, none]))
  else if k = 60 then some (.inr (6, [none, none, none, none, none, some 65, some 66, some 67, some 68, some 69, some 70, some 71, some 72, some 73, some 74, some 75, some 76, some 77, some 78, some 79, some 80, some 81, some 82, some 83, none, some 85, none, none, none, none, none, none, some 92, some 93]))
  else if 65 ≤ k ∧ k < 70 then some (.inl (0, 6, none))
  else if k = 70 then some (.inl (1, 6, none))
  else if 71 ≤ k ∧ k < 75 then some (.inl (0, 6, none))
  else if 75 ≤ k ∧ k < 81 then some (.inl (0, 4, none))
  else if k = 81 then some (.inl (0, 28, none))
  else if k = 82 ∨ k = 83 then some (.inl (0, 1600, none))
  else if k = 85 ∨ k = 92 ∨ k = 93 then some (.inl (0, 400, none))
  else if k = 100 then some (.inl (2, 1, none))
  else none
theorem xsS {k : Nat} (hk : 10 ≤ k ∧ k < 16) : xsh k = some (.inr (4, [none, none, none, none, none, none, none, none, none])) := by rw [xsh, if_pos hk]
theorem xsR {k : Nat} (hk : 20 ≤ k ∧ k < 26) : xsh k = some (.inr (3, [none, none, none, none, none])) := by rw [xsh, if_neg (by omega), if_pos hk]
theorem xsF {k : Nat} (hk : 30 ≤ k ∧ k < 34) : xsh k = some (.inr (2, [some (k + 10), some (k + 20), none, none, none, none, none, none, none, none])) := by rw [xsh, if_neg (by omega), if_neg (by omega), if_pos hk]
theorem xsFr {k : Nat} (hk : 30 ≤ k ∧ k < 34) : xsh (k + 10) = some (.inl (0, 400, none)) := by rw [xsh, if_neg (by omega), if_neg (by omega), if_neg (by omega), if_pos (by omega)]
theorem xsFs {k : Nat} (hk : 30 ≤ k ∧ k < 34) : xsh (k + 20) = some (.inl (0, 6, none)) := by rw [xsh, if_neg (by omega), if_neg (by omega), if_neg (by omega), if_neg (by omega), if_pos (by omega)]
theorem xs0 : xsh 0 = some (.inr (5, [some 1, some 2, some 3, some 4, some 6, none, none, none, none])) := by decide +kernel
theorem xs1 : xsh 1 = some (.inl (3, 6, some 10)) := by decide +kernel
theorem xs2 : xsh 2 = some (.inl (4, 6, some 20)) := by decide +kernel
theorem xs3 : xsh 3 = some (.inl (5, 4, some 30)) := by decide +kernel
theorem xs4 : xsh 4 = some (.inr (0, [some 5, none, none, none, none, none])) := by decide +kernel
theorem xs5 : xsh 5 = some (.inl (0, 400, none)) := by decide +kernel
theorem xs6 : xsh 6 = some (.inr (1, [some 7, some 8, none])) := by decide +kernel
theorem xs7 : xsh 7 = some (.inl (0, 400, none)) := by decide +kernel
theorem xs8 : xsh 8 = some (.inl (0, 400, none)) := by decide +kernel
theorem xs60 : xsh 60 = some (.inr (6, [none, none, none, none, none, some 65, some 66, some 67, some 68, some 69, some 70, some 71, some 72, some 73, some 74, some 75, some 76, some 77, some 78, some 79, some 80, some 81, some 82, some 83, none, some 85, none, none, none, none, none, none, some 92, some 93])) := by decide +kernel
theorem xs65 : xsh 65 = some (.inl (0, 6, none)) := by decide +kernel
theorem xs66 : xsh 66 = some (.inl (0, 6, none)) := by decide +kernel
theorem xs67 : xsh 67 = some (.inl (0, 6, none)) := by decide +kernel
theorem xs68 : xsh 68 = some (.inl (0, 6, none)) := by decide +kernel
theorem xs69 : xsh 69 = some (.inl (0, 6, none)) := by decide +kernel
theorem xs70 : xsh 70 = some (.inl (1, 6, none)) := by decide +kernel
theorem xs71 : xsh 71 = some (.inl (0, 6, none)) := by decide +kernel
theorem xs72 : xsh 72 = some (.inl (0, 6, none)) := by decide +kernel
theorem xs73 : xsh 73 = some (.inl (0, 6, none)) := by decide +kernel
theorem xs74 : xsh 74 = some (.inl (0, 6, none)) := by decide +kernel
theorem xs75 : xsh 75 = some (.inl (0, 4, none)) := by decide +kernel
theorem xs76 : xsh 76 = some (.inl (0, 4, none)) := by decide +kernel
theorem xs77 : xsh 77 = some (.inl (0, 4, none)) := by decide +kernel
theorem xs78 : xsh 78 = some (.inl (0, 4, none)) := by decide +kernel
theorem xs79 : xsh 79 = some (.inl (0, 4, none)) := by decide +kernel
theorem xs80 : xsh 80 = some (.inl (0, 4, none)) := by decide +kernel
theorem xs81 : xsh 81 = some (.inl (0, 28, none)) := by decide +kernel
theorem xs82 : xsh 82 = some (.inl (0, 1600, none)) := by decide +kernel
theorem xs83 : xsh 83 = some (.inl (0, 1600, none)) := by decide +kernel
theorem xs85 : xsh 85 = some (.inl (0, 400, none)) := by decide +kernel
theorem xs92 : xsh 92 = some (.inl (0, 400, none)) := by decide +kernel
theorem xs93 : xsh 93 = some (.inl (0, 400, none)) := by decide +kernel
theorem xs100 : xsh 100 = some (.inl (2, 1, none)) := by decide +kernel
def xfv (ad : Nat → Nat) (h : xH) (k j : Nat) (r : Option Nat) : Value := match r with
  | none => .int (h k j)
  | some q => .ref (ad q)
def xfs (ad : Nat → Nat) (h : xH) (k : Nat) (lay : xL) : List Value := lay.mapIdx (fun j r => xfv ad h k j r)
def xent (ad : Nat → Nat) (T : Nat → ClassId) (h : xH) (k : Nat) (sh : xSh) : va_E := match sh with
  | .inl (t, n, none) => if t = 2 then .inl (T t, n, .inr (.inl (fun j => (h k j).toInt64))) else .inl (T t, n, .inl (h k))
  | .inl (t, n, some b) => .inl (T t, n, .inr (.inr (.inr (.inr (fun j => some (ad (b + j)))))))
  | .inr (ci, lay) => .inr (ci, xfs ad h k lay)
theorem xfs_int {ad : Nat → Nat} {h : xH} {k j : Nat} {lay : xL} (hl : lay[j]? = some none) : (xfs ad h k lay)[j]? = some (.int (h k j)) := by
  simp [xfs, hl, xfv]
theorem xfs_ref {ad : Nat → Nat} {h : xH} {k j q : Nat} {lay : xL} (hl : lay[j]? = some (some q)) : (xfs ad h k lay)[j]? = some (.ref (ad q)) := by
  simp [xfs, hl, xfv]
theorem xfs_len {ad : Nat → Nat} {h : xH} {k : Nat} {lay : xL} : (xfs ad h k lay).length = lay.length := by simp [xfs]
theorem xfs_set {ad : Nat → Nat} {h : xH} {k j : Nat} {lay : xL} {x : Int32} (hl : lay[j]? = some none) : (xfs ad h k lay).set j (.int x) = xfs ad (xup h k j x) k lay := by
  apply List.ext_getElem?
  intro i
  have hj : j < lay.length := (List.getElem?_eq_some_iff.mp hl).1
  by_cases e : i = j
  · subst e
    rw [List.getElem?_set_self (by rw [xfs_len]; exact hj), xfs_int hl, xup_same]
  · rw [List.getElem?_set_ne (Ne.symm e)]
    simp only [xfs, List.getElem?_mapIdx]
    cases hq : lay[i]? with
    | none => rfl
    | some r =>
      cases r with
      | none => simp [xfv, xup_ne (Or.inr e)]
      | some q => simp [xfv]
theorem xfs_other {ad : Nat → Nat} {h : xH} {k k' j : Nat} {lay : xL} {x : Int32} (hk : k' ≠ k) : xfs ad (xup h k j x) k' lay = xfs ad h k' lay := by
  apply List.ext_getElem?
  intro i
  simp only [xfs, List.getElem?_mapIdx]
  cases hq : lay[i]? with
  | none => rfl
  | some r =>
    cases r with
    | none => simp [xfv, xup_ne (Or.inl hk)]
    | some q => simp [xfv]
theorem xup_row {h : xH} {k j k' : Nat} {x : Int32} (hk : k' ≠ k) : xup h k j x k' = h k' := by
  funext b
  exact xup_ne (Or.inl hk)
theorem xent_other {ad : Nat → Nat} {T : Nat → ClassId} {h : xH} {k k' j : Nat} {x : Int32} (sh : xSh) (hk : k' ≠ k) : xent ad T (xup h k j x) k' sh = xent ad T h k' sh := by
  match sh with
  | .inl (t, n, none) => simp only [xent, xup_row hk]
  | .inl (t, n, some b) => rfl
  | .inr (ci, lay) => simp only [xent, xfs_other hk]
def XP (ad : Nat → Nat) (D : va_G) (T : Nat → ClassId) (h : xH) (H : Heap) : Prop := ∀ (k : Nat) (sh : xSh), xsh k = some sh → va_at D vwCl (ad k, xent ad T h k sh) H
def XA (B0 : Nat) (ad : Nat → Nat) : Prop := (∀ (i j : Nat) (a b : xSh), xsh i = some a → xsh j = some b → ad i = ad j → i = j) ∧ ∀ (i : Nat) (a : xSh), xsh i = some a → B0 ≤ ad i
abbrev xtys (T : Nat → ClassId) : List (ClassId × FieldType) := [(T 0, .int), (T 1, .boolean), (T 2, .long), (T 3, .object RX4), (T 4, .object RX3), (T 5, .object RX2)]
abbrev XK (D : va_G) (T : Nat → ClassId) (U : State) : Prop := va_K D vwCl (xtys T) U
theorem XP.one {ad : Nat → Nat} {D : va_G} {T : Nat → ClassId} {h : xH} {H : Heap} (hP : XP ad D T h H) {k : Nat} {sh : xSh} (hs : xsh k = some sh) : va_P D vwCl [(ad k, xent ad T h k sh)] H := by
  intro i q hq
  match i, hq with
  | 0, hq => cases hq; exact hP k sh hs
  | i + 1, hq => simp at hq
theorem XP.set {ad : Nat → Nat} {D : va_G} {T : Nat → ClassId} {h : xH} {H H1 : Heap} {B0 : Nat} (hA : XA B0 ad) (hP : XP ad D T h H) {k j : Nat} {x : Int32} {sh : xSh} (hs : xsh k = some sh) (he : va_at D vwCl (ad k, xent ad T (xup h k j x) k sh) H1) (oq : ∀ q : Nat, q ≠ ad k → H1[q]? = H[q]?) : XP ad D T (xup h k j x) H1 := by
  intro k' sh' hs'
  by_cases e : k' = k
  · subst e
    cases hs.symm.trans hs'
    exact he
  · rw [xent_other sh' e]
    exact (hP k' sh' hs').kept (oq (ad k') (fun z => e (hA.1 _ _ _ _ hs' hs z)))
theorem XP.kept {ad : Nat → Nat} {D : va_G} {T : Nat → ClassId} {h : xH} {H H1 : Heap} (hP : XP ad D T h H) (hq : ∀ k sh, xsh k = some sh → H1[ad k]? = H[ad k]?) : XP ad D T h H1 := fun k sh hs => (hP k sh hs).kept (hq k sh hs)
theorem XP.lt {ad : Nat → Nat} {D : va_G} {T : Nat → ClassId} {h : xH} {H : Heap} (hP : XP ad D T h H) {k : Nat} {sh : xSh} (hs : xsh k = some sh) : ad k < H.size := (hP k sh hs).lt
-- what the throws need of the start: words that no method's list holds, texts, two statics
def xEa : String := "java/lang/IllegalArgumentException"
def xEs : String := "java/lang/IllegalStateException"
def xEi : String := "java/lang/IndexOutOfBoundsException"
def xnw : List Cond := [.castable "java/lang/IllegalArgumentException" "java/lang/IllegalArgumentException", .castable "java/lang/IllegalStateException" "java/lang/IllegalStateException", .castable "java/lang/IndexOutOfBoundsException" "java/lang/IndexOutOfBoundsException", .declares (Bundle.initS "java/lang/RuntimeException"), .declares (Bundle.initS "java/lang/Exception"), .declares (Bundle.initS "java/lang/Throwable")]
def xstr : List (Nat × String) := [(65, "burst or seconds is out of range"), (74, "seconds is out of range"), (247, "no such rule"), (82, "no such sender, nor any"), (85, "facilities, severity or target is out of range"), (249, "no such file"), (103, "size, age or kept is out of range"), (245, "no such sender"), (116, "facility, severity, text or length is out of range"), (124, "no more messages can come"), (170, "the file has no lines"), (181, "it is connected"), (186, "it is not connected"), (197, "it is not connected, none is queued, or 5 are in flight"), (202, "none is in flight"), (214, "no such generation"), (220, "no such place"), (232, "no such message"), (237, "no such fate")]
def xncs : List (String × String) := [("java/lang/IllegalArgumentException", "java/lang/IndexOutOfBoundsException"), ("java/lang/IllegalStateException", "java/lang/IndexOutOfBoundsException"), ("java/lang/IllegalStateException", "java/lang/IllegalArgumentException")]
def XN (B0 : Nat) (U : State) (H : Heap) : Prop := (∀ w ∈ xnw, va_Nw w U) ∧ (∀ q ∈ xncs, va_Nc q.1 q.2 U) ∧ (∀ q ∈ xstr, ∃ sa : Nat, vk_R RX5 q.1 q.2 sa U) ∧ vx_Zq Bundle.tN "UNASSIGNED_STACK" Bundle.steD (fun q => B0 ≤ q) U H ∧ vx_Zq Bundle.tN "SUPPRESSED_SENTINEL" Bundle.listD (fun q => B0 ≤ q) U H
theorem xcast_moved {u U : State} (hvm : u.vm.Alike U.vm) {a b : String} (h : va_Nw (.castable a b) u) : va_Nw (.castable a b) U := by
  have h1 : (Cond.castable a b).before #[] (u.setVm U.vm) = true := by
    rw [Cond.castable_setVm hvm]; exact h
  exact va_tabs rfl (rfl : (u.setVm U.vm).vm = U.vm) h1
theorem xdecl_moved {u U : State} (hvm : u.vm.Alike U.vm) {a : MethodName} (h : va_Nw (.declares a) u) : va_Nw (.declares a) U := by
  have h1 : (Cond.declares a).before #[] (u.setVm U.vm) = true := by
    rw [Cond.declares_setVm hvm]; exact h
  exact va_tabs rfl (rfl : (u.setVm U.vm).vm = U.vm) h1
theorem XN.warm {B0 : Nat} {s U : State} {H : Heap} (hW : s.WarmedH U.vm) (h : XN B0 s H) : XN B0 U H := by
  obtain ⟨h1, h2, h3, h4, h5⟩ := h
  refine ⟨?_, fun q hq => (h2 q hq).moved hW.alike, fun q hq => ?_, h4.moved hW.alike, h5.moved hW.alike⟩
  · intro w hw
    have h9 := h1 w hw
    simp only [xnw, List.mem_cons, List.not_mem_nil, or_false] at hw
    rcases hw with rfl | rfl | rfl | rfl | rfl | rfl <;> first | exact xcast_moved hW.alike h9 | exact xdecl_moved hW.alike h9
  · obtain ⟨sa, h9⟩ := h3 q hq
    exact ⟨sa, vk_R.warm hW h9⟩
theorem XN.kept {B0 : Nat} {U : State} {H H1 : Heap} (h : XN B0 U H) (hq : ∀ a : Nat, a < H.size → ¬ B0 ≤ a → H1[a]? = H[a]?) : XN B0 U H1 := ⟨h.1, h.2.1, h.2.2.1, h.2.2.2.1.kept hq, h.2.2.2.2.kept hq⟩
theorem XN.call {B0 : Nat} {U : State} {H : Heap} {g : JFrame} {mk : MethodId} {a : Array Value} (h : XN B0 U H) : XN B0 (U.calling g mk a) H := XN.warm (s := U) (U := U.calling g mk a) (State.WarmedH.refl U) h
/-- THE WORLD of a state -/
def XW (B0 : Nat) (ad : Nat → Nat) (D : va_G) (T : Nat → ClassId) (h : xH) (U : State) : Prop := B0 ≤ U.heap.size ∧ XP ad D T h U.heap ∧ XK D T U ∧ XN B0 U U.heap
theorem XW.call {B0 : Nat} {ad : Nat → Nat} {D : va_G} {T : Nat → ClassId} {h : xH} {U : State} {g : JFrame} {mk : MethodId} {a : Array Value} (q : XW B0 ad D T h U) : XW B0 ad D T h (U.calling g mk a) := ⟨q.1, q.2.1, va_K.moved (u := U) (U := U.calling g mk a) (Vm.Alike.refl U.vm) q.2.2.1, q.2.2.2.call⟩
theorem XW.mk {B0 : Nat} {ad : Nat → Nat} {D : va_G} {T : Nat → ClassId} {h : xH} {s U : State} {H : Heap} {locs : List Loc} (hB0 : B0 ≤ s.heap.size) (hP : XP ad D T h H) (hK : XK D T s) (hN : XN B0 s s.heap) (hS : va_S (fun q => B0 ≤ q) s.heap H locs) (hU : U.heap = H) (hW : s.WarmedH U.vm) : XW B0 ad D T h U :=
  ⟨by rw [hU]; exact Nat.le_trans hB0 hS.1, by rw [hU]; exact hP, va_K.moved hW.alike hK, by rw [hU]; exact (hN.kept (fun a h1 h2 => hS.2.1 a h1 h2)).warm hW⟩
-- CONTRACTS: what a method does to the world, by a predicate K on its answer and the new world (its 'wp' is a premise of the contract's theorem)
def XQ {α : Type} (B0 : Nat) (ad : Nat → Nat) (D : va_G) (T : Nat → ClassId) (enc : α → Option Value) (K : α → xH → Prop) : Array Value → State → Outcome → State → Prop := fun _ st o t => (∃ (r : α) (h' : xH), o = .returned (enc r) ∧ K r h' ∧ XP ad D T h' t.heap) ∧ va_F (fun q => B0 ≤ q) st t
def XX (B0 : Nat) (ad : Nat → Nat) (D : va_G) (T : Nat → ClassId) (KX : String → xH → Prop) : String → State → State → Prop := fun E st t => (∃ h' : xH, KX E h' ∧ XP ad D T h' t.heap) ∧ va_F (fun q => B0 ≤ q) st t
abbrev xei : Int32 → Option Value := fun x => some (.int x)
abbrev xev : Unit → Option Value := fun _ => none
abbrev xer (ad : Nat → Nat) : Nat → Option Value := fun k => some (.ref (ad k))
abbrev xeq (ad : Nat → Nat) : Option Nat → Option Value := fun o => some (va_rf (o.map ad))
def XM {α : Type} (l : Launch) (y : MethodName) (ws : List Cond) (rm : Room) (B0 : Nat) (ad : Nat → Nat) (D : va_G) (T : Nat → ClassId) (h : xH) (As : List Value) (enc : α → Option Value) (K : α → xH → Prop) (mc ms : Nat) : Prop :=
  Met l y ws rm (va_Pc As (XW B0 ad D T h)) (XQ B0 ad D T enc K) mc ms (fun q => B0 ≤ q)
def XT {α : Type} (l : Launch) (y : MethodName) (ws : List Cond) (rm : Room) (B0 : Nat) (ad : Nat → Nat) (D : va_G) (T : Nat → ClassId) (h : xH) (As : List Value) (enc : α → Option Value) (K : α → xH → Prop) (KX : String → xH → Prop) (mc ms : Nat) : Prop :=
  vx_Met l y ws rm (va_Pc As (XW B0 ad D T h)) (XQ B0 ad D T enc K) (XX B0 ad D T KX) mc ms (fun q => B0 ≤ q)
theorem xblind {B0 : Nat} {ad : Nat → Nat} {D : va_G} {T : Nat → ClassId} {h : xH} {As : List Value} : FrameBlind (va_Pc As (XW B0 ad D T h)) := fun _ _ _ _ q => ⟨q.1, q.2.call⟩
section XROWS
variable {p : Program} {l : Launch} {e : Env} {R : Room} {s : State} {m : MethodId} {args : Array Value} {below : List Frame} {meth : Method} {c : Code} {H : Heap} {locs : List Loc} {cells slots : Nat} {Q : State → Prop}
variable {cc : ByteArray} {pc : Nat} {ls : Array Slot} {rest : List Value} {ad : Nat → Nat} {D : va_G} {T : Nat → ClassId} {h : xH} {B0 : Nat} {H0 : Heap}
theorem xg_get (hexec : p.tables.exec = Jvm.exec) (hb : c.code = cc) {own ref C : String} {TC : u_T} {N ci index : Nat} {Ts : List Cond} (hts : ∀ w ∈ Ts, w.before args s = true) (hin : ∀ w ∈ u_ws C TC N, w ∈ Ts) (hown : s.vm.findClass own = some m.cls) (hK : XK D T s) (hP : XP ad D T h H) {k : Nat} {lay : xL} (hsh : xsh k = some (.inr (ci, lay))) (hc : vwCl[ci]? = some (C, TC, N)) (j : Nat) (hj : j < N) (hlink : (Cond.fieldLink own index ref (TC j).2.1 (TC j).2.2.1).before args s = true) (hsame : ∀ x, s.fieldFound? (TC j).1 (TC j).2.1 (TC j).2.2.1 = some x → s.fieldFound? ref (TC j).2.1 (TC j).2.2.1 = some x) (hl : lay[j]? = some none) (hdg : decode cc pc = .ok (.getfield index, 3))
    (kk : W p l e R s m args below meth c H locs cells slots Q (F0 m (pc + 3) ls (.int (h k j) :: rest))) : W p l e R s m args below meth c H locs cells slots Q (F0 m pc ls (.ref (ad k) :: rest)) :=
  va_get hexec hb hts hin hown hK (hP.one hsh) 0 rfl hc j hj hlink hsame (xfs_int hl) hdg kk
theorem xg_getr (hexec : p.tables.exec = Jvm.exec) (hb : c.code = cc) {own ref C : String} {TC : u_T} {N ci index : Nat} {Ts : List Cond} (hts : ∀ w ∈ Ts, w.before args s = true) (hin : ∀ w ∈ u_ws C TC N, w ∈ Ts) (hown : s.vm.findClass own = some m.cls) (hK : XK D T s) (hP : XP ad D T h H) {k : Nat} {lay : xL} (hsh : xsh k = some (.inr (ci, lay))) (hc : vwCl[ci]? = some (C, TC, N)) (j : Nat) (hj : j < N) (hlink : (Cond.fieldLink own index ref (TC j).2.1 (TC j).2.2.1).before args s = true) (hsame : ∀ x, s.fieldFound? (TC j).1 (TC j).2.1 (TC j).2.2.1 = some x → s.fieldFound? ref (TC j).2.1 (TC j).2.2.1 = some x) {q : Nat} (hl : lay[j]? = some (some q)) (hdg : decode cc pc = .ok (.getfield index, 3))
    (kk : W p l e R s m args below meth c H locs cells slots Q (F0 m (pc + 3) ls (.ref (ad q) :: rest))) : W p l e R s m args below meth c H locs cells slots Q (F0 m pc ls (.ref (ad k) :: rest)) :=
  va_get hexec hb hts hin hown hK (hP.one hsh) 0 rfl hc j hj hlink hsame (xfs_ref hl) hdg kk
theorem xg_put (hexec : p.tables.exec = Jvm.exec) (hb : c.code = cc) {own ref C : String} {TC : u_T} {N ci index : Nat} {Ts : List Cond} (hts : ∀ w ∈ Ts, w.before args s = true) (hin : ∀ w ∈ u_ws C TC N, w ∈ Ts) (ty0 : Nat → FieldType) (hty : ∀ k, k < N → parseFieldDescriptor (TC k).2.2.1 = some (ty0 k)) (hnm : ∀ a, a < N → ∀ b, b < N → a ≠ b → (TC a).2.1 ≠ (TC b).2.1) (hown : s.vm.findClass own = some m.cls) (hK : XK D T s) (hP : XP ad D T h H) (hA : XA B0 ad) (hS0 : va_S (fun q => B0 ≤ q) H0 H locs) {k : Nat} {lay : xL} (hsh : xsh k = some (.inr (ci, lay))) (hc : vwCl[ci]? = some (C, TC, N)) (j : Nat) (hj : j < N) (hlink : (Cond.fieldLink own index ref (TC j).2.1 (TC j).2.2.1).before args s = true) (hsame : ∀ x, s.fieldFound? (TC j).1 (TC j).2.1 (TC j).2.2.1 = some x → s.fieldFound? ref (TC j).2.1 (TC j).2.2.1 = some x) (hl : lay[j]? = some none) (hfin : (TC j).2.2.2 = false) {ty : FieldType} {x : Int32} (hd : parseFieldDescriptor (TC j).2.2.1 = some ty) (hn : narrow ty (.int x) = .int x) (hfit : fits ty (.int x) = true)
    (hdg : decode cc pc = .ok (.putfield index, 3)) (kk : ∀ (H1 : Heap) (locs1 : List Loc) (h1 : xH), h1 = xup h k j x → XP ad D T h1 H1 → va_S (fun q => B0 ≤ q) H0 H1 locs1 → W p l e R s m args below meth c H1 locs1 cells slots Q (F0 m (pc + 3) ls rest)) : W p l e R s m args below meth c H locs cells slots Q (F0 m pc ls (.int x :: .ref (ad k) :: rest)) := by
  have hap := va_apart (own := own) hts hin ty0 hty hnm hK hc
  obtain ⟨r, h1, cell, q1, q2, q3, q4⟩ := hP k _ hsh
  have hr : r = (C, TC, N) := Option.some.inj (h1.symm.trans hc)
  subst hr
  obtain ⟨hSl, hfc, kC, hkC, hkind⟩ := hK.1 ci _ hc
  obtain ⟨cf, kf, fi, f, hi, hsl⟩ := hSl j hj
  have hlay := hts _ (hin _ (u_in_lay hj))
  unfold u_lay at hlay
  rw [if_neg (by rw [hfin]; decide)] at hlay
  have hst := (u_facts hfc hkC (u_lays hts hin hj) hi).1
  have h6 := u_store hfc hkC hkind hlay hi hd hn hfit
  have hjl : j < (xfs ad h k lay).length := by rw [xfs_len]; exact (List.getElem?_eq_some_iff.mp hl).1
  refine W.putK hexec hb (f := f) ⟨hown, hlink, ⟨_, _, _, hsame _ hi⟩, hst⟩ (by rw [q2]; exact h6) q1 q3 (by rw [hsl]; exact k2_hasslot (q4 j hj)) rfl rfl hdg fun H' e1 e2 e3 => ?_
  rw [hsl] at e1 ⊢
  refine kk H' _ _ rfl (XP.set hA hP hsh ?_ e3) (hS0.put e2 e3 (hA.2 k _ hsh))
  refine ⟨_, hc, ?_⟩
  rw [← xfs_set hl]
  exact t_OB.to (V := updV (vp_V (xfs ad h k lay)) j (.int x)) ⟨_, e1, q2, q3, t_set q4 hap hj (.int x)⟩ (fun i _ => vp_updV_set hjl (.int x) i)
theorem xcell_i {t n : Nat} {k : Nat} (ht : t ≠ 2) : xent ad T h k (.inl (t, n, none)) = .inl (T t, n, .inl (h k)) := by simp [xent, ht]
theorem xupd {k j : Nat} {x : Int32} : upd (h k) j x = xup h k j x k := by
  funext b
  simp only [upd, xup, if_true]
theorem xg_iald (hexec : p.tables.exec = Jvm.exec) (hb : c.code = cc) (hK : XK D T s) (hP : XP ad D T h H) {k n : Nat} (hsh : xsh k = some (.inl (0, n, none))) {i : Int32} (hin : vp_in i n) (hdg : decode cc pc = .ok (.iaload, 1))
    (kk : W p l e R s m args below meth c H locs cells slots Q (F0 m (pc + 1) ls (.int (h k i.toNatClampNeg) :: rest))) : W p l e R s m args below meth c H locs cells slots Q (F0 m pc ls (.int i :: .ref (ad k) :: rest)) :=
  va_iald hexec hb hK (hP.one hsh) 0 0 rfl rfl hin hdg kk
theorem xg_zald (hexec : p.tables.exec = Jvm.exec) (hb : c.code = cc) (hK : XK D T s) (hP : XP ad D T h H) {k n : Nat} (hsh : xsh k = some (.inl (1, n, none))) {i : Int32} (hin : vp_in i n) (hdg : decode cc pc = .ok (.baload, 1))
    (kk : W p l e R s m args below meth c H locs cells slots Q (F0 m (pc + 1) ls (.int (h k i.toNatClampNeg) :: rest))) : W p l e R s m args below meth c H locs cells slots Q (F0 m pc ls (.int i :: .ref (ad k) :: rest)) :=
  va_zald hexec hb hK (hP.one hsh) 0 1 rfl rfl hin hdg kk
theorem xg_lald (hexec : p.tables.exec = Jvm.exec) (hb : c.code = cc) (hK : XK D T s) (hP : XP ad D T h H) {k n : Nat} (hsh : xsh k = some (.inl (2, n, none))) {i : Int32} (hin : vp_in i n) (hdg : decode cc pc = .ok (.laload, 1))
    (kk : W p l e R s m args below meth c H locs cells slots Q (F0 m (pc + 1) ls (.long (h k i.toNatClampNeg).toInt64 :: rest))) : W p l e R s m args below meth c H locs cells slots Q (F0 m pc ls (.int i :: .ref (ad k) :: rest)) :=
  va_lald hexec hb hK (hP.one hsh) 0 2 rfl rfl hin hdg kk
theorem xg_aald (hexec : p.tables.exec = Jvm.exec) (hb : c.code = cc) (hK : XK D T s) (hP : XP ad D T h H) {k t n b : Nat} {C : String} (hsh : xsh k = some (.inl (t, n, some b))) (ht : (xtys T)[t]? = some (T t, .object C)) {i : Int32} (hin : vp_in i n) (hdg : decode cc pc = .ok (.aaload, 1))
    (kk : i.toNatClampNeg < n → W p l e R s m args below meth c H locs cells slots Q (F0 m (pc + 1) ls (.ref (ad (b + i.toNatClampNeg)) :: rest))) : W p l e R s m args below meth c H locs cells slots Q (F0 m pc ls (.int i :: .ref (ad k) :: rest)) :=
  va_aldq hexec hb hK (hP.one hsh) 0 t rfl ht hin hdg (kk (Nat.not_le.mp fun q => hin (Or.inr q)))
theorem xg_alen (hexec : p.tables.exec = Jvm.exec) (hb : c.code = cc) (hK : XK D T s) (hP : XP ad D T h H) {k n : Nat} (hsh : xsh k = some (.inl (0, n, none))) {v : Int32} (hv : Int32.ofNat n = v) (hdg : decode cc pc = .ok (.arraylength, 1))
    (kk : W p l e R s m args below meth c H locs cells slots Q (F0 m (pc + 1) ls (.int v :: rest))) : W p l e R s m args below meth c H locs cells slots Q (F0 m pc ls (.ref (ad k) :: rest)) :=
  va_alen hexec hb hK (hP.one hsh) 0 0 rfl rfl hv hdg kk
theorem xg_iast (hexec : p.tables.exec = Jvm.exec) (hb : c.code = cc) (hK : XK D T s) (hP : XP ad D T h H) (hA : XA B0 ad) (hS : va_S (fun q => B0 ≤ q) H0 H locs) {k n : Nat} (hsh : xsh k = some (.inl (0, n, none))) {i : Int32} {x : Int32} (hin : vp_in i n) (hdg : decode cc pc = .ok (.iastore, 1))
    (kk : ∀ (H1 : Heap) (locs1 : List Loc) (h1 : xH), h1 = xup h k i.toNatClampNeg x → XP ad D T h1 H1 → va_S (fun q => B0 ≤ q) H0 H1 locs1 → W p l e R s m args below meth c H1 locs1 cells slots Q (F0 m (pc + 1) ls rest)) : W p l e R s m args below meth c H locs cells slots Q (F0 m pc ls (.int x :: .int i :: .ref (ad k) :: rest)) := by
  refine W.iast hexec hb (hP k _ hsh) ((hK.2 0 _ rfl).1 n (fun j => .int (h k j))) (fun q => by cases q) (by show ¬ (i < 0 ∨ (arrV _ _ _).slots.size ≤ _); rw [arrV_size]; exact hin) rfl rfl hdg fun H1 e z oq => ?_
  refine kk H1 _ _ rfl (XP.set hA hP hsh ?_ oq) (hS.put z oq (hA.2 k _ hsh))
  rw [xcell_i (by decide)]
  show H1[ad k]? = some (vp_cell _ _)
  rw [e, ← xupd]
  show some ((vp_cell _ (n, .inl (h k))).setSlot _ _) = _
  rw [vp_cell_i, vp_cell_i, arrV_store]
  congr 2
  funext q
  by_cases hq : q = i.toNatClampNeg
  · subst hq
    simp [updV, upd]
  · simp [updV, upd, hq]
theorem xg_zast (hexec : p.tables.exec = Jvm.exec) (hb : c.code = cc) (hK : XK D T s) (hP : XP ad D T h H) (hA : XA B0 ad) (hS : va_S (fun q => B0 ≤ q) H0 H locs) {k n : Nat} (hsh : xsh k = some (.inl (1, n, none))) {i : Int32} {x : Int32} (hx : vp_nar .boolean x = x) (hin : vp_in i n) (hdg : decode cc pc = .ok (.bastore, 1))
    (kk : ∀ (H1 : Heap) (locs1 : List Loc) (h1 : xH), h1 = xup h k i.toNatClampNeg x → XP ad D T h1 H1 → va_S (fun q => B0 ≤ q) H0 H1 locs1 → W p l e R s m args below meth c H1 locs1 cells slots Q (F0 m (pc + 1) ls rest)) : W p l e R s m args below meth c H locs cells slots Q (F0 m pc ls (.int x :: .int i :: .ref (ad k) :: rest)) := by
  refine W.zast hexec hb (hP k _ hsh) ((hK.2 1 _ rfl).1 n (fun j => .int (h k j))) (fun q => by cases q) (by show ¬ (i < 0 ∨ (arrV _ _ _).slots.size ≤ _); rw [arrV_size]; exact hin) rfl rfl hdg fun H1 e z oq => ?_
  refine kk H1 _ _ rfl (XP.set hA hP hsh ?_ oq) (hS.put z oq (hA.2 k _ hsh))
  rw [xcell_i (by decide)]
  show H1[ad k]? = some (vp_cell _ _)
  rw [e, ← xupd]
  show some ((vp_cell _ (n, .inl (h k))).setSlot _ _) = _
  rw [vp_cell_i, vp_cell_i, arrV_store]
  congr 2
  funext q
  by_cases hq : q = i.toNatClampNeg
  · subst hq
    rw [show narrow .boolean (.int x) = .int (vp_nar .boolean x) from rfl, hx]
    simp [updV, upd]
  · simp [updV, upd, hq]
theorem xg_last (hexec : p.tables.exec = Jvm.exec) (hb : c.code = cc) (hK : XK D T s) (hP : XP ad D T h H) (hA : XA B0 ad) (hS : va_S (fun q => B0 ≤ q) H0 H locs) {k n : Nat} (hsh : xsh k = some (.inl (2, n, none))) {i : Int32} {x : Int32} (hin : vp_in i n) (hdg : decode cc pc = .ok (.lastore, 1))
    (kk : ∀ (H1 : Heap) (locs1 : List Loc) (h1 : xH), h1 = xup h k i.toNatClampNeg x → XP ad D T h1 H1 → va_S (fun q => B0 ≤ q) H0 H1 locs1 → W p l e R s m args below meth c H1 locs1 cells slots Q (F0 m (pc + 1) ls rest)) : W p l e R s m args below meth c H locs cells slots Q (F0 m pc ls (.long x.toInt64 :: .int i :: .ref (ad k) :: rest)) := by
  refine W.last hexec hb (hP k _ hsh) ((hK.2 2 _ rfl).1 n (fun j => .long (h k j).toInt64)) (fun q => by cases q) (by show ¬ (i < 0 ∨ (arrV _ _ _).slots.size ≤ _); rw [arrV_size]; exact hin) rfl rfl hdg fun H1 e z oq => ?_
  refine kk H1 _ _ rfl (XP.set hA hP hsh ?_ oq) (hS.put z oq (hA.2 k _ hsh))
  show H1[ad k]? = some (vp_cell _ _)
  rw [e]
  show some ((vp_cell _ (n, .inr (.inl (fun j => (h k j).toInt64)))).setSlot _ _) = _
  rw [vp_cell_l, vp_cell_l, arrV_store]
  congr 2
  funext q
  by_cases hq : q = i.toNatClampNeg
  · subst hq
    simp [updV, xup]
  · simp [updV, xup, hq]
theorem xg_recv {k ci : Nat} {lay : xL} {C : String} {TC : u_T} {N : Nat} (hK : XK D T s) (hP : XP ad D T h H) (hsh : xsh k = some (.inr (ci, lay))) (hc : vwCl[ci]? = some (C, TC, N)) : ∃ cell : Cell, H[ad k]? = some cell ∧ cell.vm.isStatics = false ∧ s.vm.findClass C = some cell.cls :=
  va_recv hK (hP.one hsh) hc (q0 := 0) rfl
theorem xg_preV {k ci : Nat} {lay : xL} {C : String} {TC : u_T} {N : Nat} {As : List Value} (hB0 : B0 ≤ s.heap.size) (hP : XP ad D T h H) (hK : XK D T s) (hN : XN B0 s s.heap) (hS : va_S (fun q => B0 ≤ q) s.heap H locs) (hsh : xsh k = some (.inr (ci, lay))) (hc : vwCl[ci]? = some (C, TC, N)) : PreV s H C (ad k) (va_Pc (.ref (ad k) :: As) (XW B0 ad D T h)) As :=
  ⟨xblind, xg_recv hK hP hsh hc, fun U hU hW => ⟨rfl, XW.mk hB0 hP hK hN hS hU hW⟩⟩
theorem xg_preS {As : List Value} (hB0 : B0 ≤ s.heap.size) (hP : XP ad D T h H) (hK : XK D T s) (hN : XN B0 s s.heap) (hS : va_S (fun q => B0 ≤ q) s.heap H locs) : PreS s H (va_Pc As (XW B0 ad D T h)) As :=
  ⟨xblind, fun U hU hW => ⟨rfl, XW.mk hB0 hP hK hN hS hU hW⟩⟩
variable {mc ms : Nat} {a : Array Value} {st0 : List Value}
theorem xg_keep {st₀ t T' : State} {L : List Loc} (h0 : st₀.heap = H) (e1 : T'.heap = t.heap) (hS : va_S (fun q => B0 ≤ q) H0 H locs) (hL : ∀ q ∈ L, B0 ≤ q.base) (hF : va_F (fun q => B0 ≤ q) st₀ t) : va_S (fun q => B0 ≤ q) H0 T'.heap (locs ++ L) :=
  (vx_keep h0 e1 hS (fun _ _ q => q) (fun _ q => q) hL hF).2.2
theorem xg_call {α : Type} {enc : α → Option Value} {K : α → xH → Prop} (hr : va_Run p l e R s m args below meth c H locs cells slots mc ms (F0 m pc ls st0) rest (XQ B0 ad D T enc K a) (fun q => B0 ≤ q)) (hS : va_S (fun q => B0 ≤ q) H0 H locs)
    (kk : ∀ (r : α) (h' : xH) (H1 : Heap) (locs1 : List Loc), K r h' → XP ad D T h' H1 → va_S (fun q => B0 ≤ q) H0 H1 locs1 → W p l e R s m args below meth c H1 locs1 (cells + mc) (slots + ms) Q (F0 m (pc + 3) ls ((enc r).toList ++ rest))) : W p l e R s m args below meth c H locs cells slots Q (F0 m pc ls st0) := by
  intro U hU X
  obtain ⟨v, st₀, t, T', L, h0, X', hL, e1, e2, ⟨⟨r, h', hv, hq, hw⟩, hF⟩, st⟩ := hr U hU X
  cases hv
  obtain ⟨t2, a1, b1⟩ := kk r h' T'.heap (locs ++ L) hq (by rw [e1]; exact hw) (xg_keep h0 e1 hS hL hF) T' rfl X'
  exact ⟨t2, st t2 a1, b1⟩
theorem xg_calli {K : Int32 → xH → Prop} (hr : va_Run p l e R s m args below meth c H locs cells slots mc ms (F0 m pc ls st0) rest (XQ B0 ad D T xei K a) (fun q => B0 ≤ q)) (hS : va_S (fun q => B0 ≤ q) H0 H locs)
    (kk : ∀ (r : Int32) (h' : xH) (H1 : Heap) (locs1 : List Loc), K r h' → XP ad D T h' H1 → va_S (fun q => B0 ≤ q) H0 H1 locs1 → W p l e R s m args below meth c H1 locs1 (cells + mc) (slots + ms) Q (F0 m (pc + 3) ls (.int r :: rest))) : W p l e R s m args below meth c H locs cells slots Q (F0 m pc ls st0) := xg_call hr hS kk
theorem xg_callv {K : Unit → xH → Prop} (hr : va_Run p l e R s m args below meth c H locs cells slots mc ms (F0 m pc ls st0) rest (XQ B0 ad D T xev K a) (fun q => B0 ≤ q)) (hS : va_S (fun q => B0 ≤ q) H0 H locs)
    (kk : ∀ (r : Unit) (h' : xH) (H1 : Heap) (locs1 : List Loc), K r h' → XP ad D T h' H1 → va_S (fun q => B0 ≤ q) H0 H1 locs1 → W p l e R s m args below meth c H1 locs1 (cells + mc) (slots + ms) Q (F0 m (pc + 3) ls rest)) : W p l e R s m args below meth c H locs cells slots Q (F0 m pc ls st0) := xg_call hr hS kk
theorem xg_callr {K : Nat → xH → Prop} (hr : va_Run p l e R s m args below meth c H locs cells slots mc ms (F0 m pc ls st0) rest (XQ B0 ad D T (xer ad) K a) (fun q => B0 ≤ q)) (hS : va_S (fun q => B0 ≤ q) H0 H locs)
    (kk : ∀ (r : Nat) (h' : xH) (H1 : Heap) (locs1 : List Loc), K r h' → XP ad D T h' H1 → va_S (fun q => B0 ≤ q) H0 H1 locs1 → W p l e R s m args below meth c H1 locs1 (cells + mc) (slots + ms) Q (F0 m (pc + 3) ls (.ref (ad r) :: rest))) : W p l e R s m args below meth c H locs cells slots Q (F0 m pc ls st0) := xg_call hr hS kk
theorem xg_callq {K : Option Nat → xH → Prop} (hr : va_Run p l e R s m args below meth c H locs cells slots mc ms (F0 m pc ls st0) rest (XQ B0 ad D T (xeq ad) K a) (fun q => B0 ≤ q)) (hS : va_S (fun q => B0 ≤ q) H0 H locs)
    (kk : ∀ (r : Option Nat) (h' : xH) (H1 : Heap) (locs1 : List Loc), K r h' → XP ad D T h' H1 → va_S (fun q => B0 ≤ q) H0 H1 locs1 → W p l e R s m args below meth c H1 locs1 (cells + mc) (slots + ms) Q (F0 m (pc + 3) ls (va_rf (r.map ad) :: rest))) : W p l e R s m args below meth c H locs cells slots Q (F0 m pc ls st0) := xg_call hr hS kk
theorem xg_callX {α : Type} {enc : α → Option Value} {K : α → xH → Prop} {KX : String → xH → Prop} (hr : vx_Run p l e R s m args below meth c H locs cells slots mc ms (F0 m pc ls st0) rest (XQ B0 ad D T enc K a) (XX B0 ad D T KX) (fun q => B0 ≤ q)) (hS : va_S (fun q => B0 ≤ q) H0 H locs)
    (kx : ∀ (E : String) (ce : Cell) (q9 : Addr) (h' : xH) (H1 : Heap) (locs1 : List Loc), KX E h' → XP ad D T h' H1 → va_S (fun q => B0 ≤ q) H0 H1 locs1 → H1[q9]? = some ce → ce.vm = .none → s.vm.findClass E = some ce.cls → vx_W p l e R s m args below meth c H1 locs1 (cells + mc) (slots + ms) Q (F0 m pc ls rest) q9)
    (kk : ∀ (r : α) (h' : xH) (H1 : Heap) (locs1 : List Loc), K r h' → XP ad D T h' H1 → va_S (fun q => B0 ≤ q) H0 H1 locs1 → W p l e R s m args below meth c H1 locs1 (cells + mc) (slots + ms) Q (F0 m (pc + 3) ls ((enc r).toList ++ rest))) : W p l e R s m args below meth c H locs cells slots Q (F0 m pc ls st0) := by
  intro U hU X
  rcases hr U hU X with ⟨v, st₀, t, T', L, h0, X', hL, e1, e2, ⟨⟨r, h', hv, hq, hw⟩, hF⟩, st⟩ | ⟨q, st₀, t, T', L, E, ce, h0, X', hL, e1, e2, ⟨⟨h', hq, hw⟩, hF⟩, hce, hcv, hcl, st⟩
  · cases hv
    obtain ⟨t2, a1, b1⟩ := kk r h' T'.heap (locs ++ L) hq (by rw [e1]; exact hw) (xg_keep h0 e1 hS hL hF) T' rfl X'
    exact ⟨t2, st t2 a1, b1⟩
  · obtain ⟨t2, a1, b1⟩ := kx E ce q h' T'.heap (locs ++ L) hq (by rw [e1]; exact hw) (xg_keep h0 e1 hS hL hF) (by rw [e1]; exact hce) hcv hcl T' rfl X'
    exact ⟨t2, st.trans a1, b1⟩
theorem xg_callXi {K : Int32 → xH → Prop} {KX : String → xH → Prop} (hr : vx_Run p l e R s m args below meth c H locs cells slots mc ms (F0 m pc ls st0) rest (XQ B0 ad D T xei K a) (XX B0 ad D T KX) (fun q => B0 ≤ q)) (hS : va_S (fun q => B0 ≤ q) H0 H locs)
    (kx : ∀ (E : String) (ce : Cell) (q9 : Addr) (h' : xH) (H1 : Heap) (locs1 : List Loc), KX E h' → XP ad D T h' H1 → va_S (fun q => B0 ≤ q) H0 H1 locs1 → H1[q9]? = some ce → ce.vm = .none → s.vm.findClass E = some ce.cls → vx_W p l e R s m args below meth c H1 locs1 (cells + mc) (slots + ms) Q (F0 m pc ls rest) q9)
    (kk : ∀ (r : Int32) (h' : xH) (H1 : Heap) (locs1 : List Loc), K r h' → XP ad D T h' H1 → va_S (fun q => B0 ≤ q) H0 H1 locs1 → W p l e R s m args below meth c H1 locs1 (cells + mc) (slots + ms) Q (F0 m (pc + 3) ls (.int r :: rest))) : W p l e R s m args below meth c H locs cells slots Q (F0 m pc ls st0) := xg_callX hr hS kx kk
theorem xg_callXr {K : Nat → xH → Prop} {KX : String → xH → Prop} (hr : vx_Run p l e R s m args below meth c H locs cells slots mc ms (F0 m pc ls st0) rest (XQ B0 ad D T (xer ad) K a) (XX B0 ad D T KX) (fun q => B0 ≤ q)) (hS : va_S (fun q => B0 ≤ q) H0 H locs)
    (kx : ∀ (E : String) (ce : Cell) (q9 : Addr) (h' : xH) (H1 : Heap) (locs1 : List Loc), KX E h' → XP ad D T h' H1 → va_S (fun q => B0 ≤ q) H0 H1 locs1 → H1[q9]? = some ce → ce.vm = .none → s.vm.findClass E = some ce.cls → vx_W p l e R s m args below meth c H1 locs1 (cells + mc) (slots + ms) Q (F0 m pc ls rest) q9)
    (kk : ∀ (r : Nat) (h' : xH) (H1 : Heap) (locs1 : List Loc), K r h' → XP ad D T h' H1 → va_S (fun q => B0 ≤ q) H0 H1 locs1 → W p l e R s m args below meth c H1 locs1 (cells + mc) (slots + ms) Q (F0 m (pc + 3) ls (.ref (ad r) :: rest))) : W p l e R s m args below meth c H locs cells slots Q (F0 m pc ls st0) := xg_callX hr hS kx kk
-- ends
theorem xg_irets {K : Int32 → xH → Prop} {v : Int32} {ty : FieldType} (hexec : p.tables.exec = Jvm.exec) (hb : c.code = cc) (hr : meth.sig.returnType = some ty) (hn : narrow ty (.int v) = .int v) (hlocks : meth.locks = false) (hB0 : B0 ≤ s.heap.size) (hP : XP ad D T h H) (hK : XK D T s) (hN : XN B0 s s.heap) (hS : va_S (fun q => B0 ≤ q) s.heap H locs) (hdg : decode cc pc = .ok (.ireturn, 1)) (hc : cells ≤ mc) (hs : slots ≤ ms) (hw : K v h) : W p l e R s m args below meth c H locs cells slots (MQ below (XQ B0 ad D T xei K) args s mc ms (fun q => B0 ≤ q)) (F0 m pc ls [.int v]) :=
  W.widen hc hs (W.zret hexec hb hr hn (fun t ht hW => ⟨⟨v, h, rfl, hw, by rw [ht]; exact hP⟩, hS.F ht⟩) hS.2.2 hdg)
theorem xg_vrets {K : Unit → xH → Prop} (hexec : p.tables.exec = Jvm.exec) (hb : c.code = cc) (hr : meth.sig.returnType = none) (hlocks : meth.locks = false) (hB0 : B0 ≤ s.heap.size) (hP : XP ad D T h H) (hK : XK D T s) (hN : XN B0 s s.heap) (hS : va_S (fun q => B0 ≤ q) s.heap H locs) (hdg : decode cc pc = .ok (.return_, 1)) (hc : cells ≤ mc) (hs : slots ≤ ms) (hw : K () h) : W p l e R s m args below meth c H locs cells slots (MQ below (XQ B0 ad D T xev K) args s mc ms (fun q => B0 ≤ q)) (F0 m pc ls []) :=
  W.widen hc hs (W.vret hexec hb hr (fun t ht hW => ⟨⟨(), h, rfl, hw, by rw [ht]; exact hP⟩, hS.F ht⟩) hS.2.2 hdg)
theorem xg_throw {α : Type} {enc : α → Option Value} {K : α → xH → Prop} {KX : String → xH → Prop} (hexec : p.tables.exec = Jvm.exec) (hb : c.code = cc) (hl : l.stackTraces = false) {cls text : String} {ik is ic : Nat}
    (hown : s.vm.findClass RX5 = some m.cls) (hcls : Bundle.fit cls = true)
    (hk : (Cond.classLink RX5 ik cls).before args s = true) (hini : (Cond.initialized cls).before args s = true) (hat : ∀ w ∈ (vx_atS RX5 ic cls ["java/lang/RuntimeException", "java/lang/Exception"]).filter goodWord, w.before args s = true)
    (hng : ∀ w ∈ (vx_atS RX5 ic cls ["java/lang/RuntimeException", "java/lang/Exception"]).filter (fun w => !goodWord w), w ∈ xnw) (hgood : ∀ w ∈ Cond.classLink RX5 ik cls :: Cond.initialized cls :: vx_atS RX5 ic cls ["java/lang/RuntimeException", "java/lang/Exception"], vx_ot w = true)
    (hstr : (is, text) ∈ xstr) (hB0 : B0 ≤ s.heap.size) (hP : XP ad D T h H) (hK : XK D T s) (hN : XN B0 s s.heap) (hS : va_S (fun q => B0 ≤ q) s.heap H locs) (hsize : ls.size = c.maxLocals)
    (d0 : decode cc pc = .ok (.new ik, 3)) (d3 : decode cc (pc + 3) = .ok (.dup, 1)) (d4 : decode cc (pc + 4) = .ok (.ldc is, 2)) (d6 : decode cc (pc + 6) = .ok (.invokespecial ic, 3)) (d9 : decode cc (pc + 9) = .ok (.athrow, 1))
    (hout : ∀ x ∈ c.exceptionTable.toList, False)
    (hRframes : 5 < R.frames) (hRlocals : (rest.map fun v => v.category).sum + 82 ≤ R.locals) (hRcells : cells + 1 ≤ R.cells) (hRslots : slots + 6 ≤ R.slots) (hlocks : meth.locks = false)
    (hc : cells + 1 ≤ mc) (hs : slots + 6 ≤ ms) (hw : KX cls h) :
    W p l e R s m args below meth c H locs cells slots (vx_MQ below (XQ B0 ad D T enc K) (XX B0 ad D T KX) args s mc ms (fun q => B0 ≤ q)) (F0 m pc ls rest) := by
  obtain ⟨sa, hsa⟩ := hN.2.2.1 _ hstr
  have hat' : ∀ w ∈ vx_atS RX5 ic cls ["java/lang/RuntimeException", "java/lang/Exception"], w.before args s = true := by
    intro w hwm
    by_cases g : goodWord w = true
    · exact hat w (List.mem_filter.mpr ⟨hwm, g⟩)
    · have hm := hng w (List.mem_filter.mpr ⟨hwm, by cases hgw : goodWord w; rfl; exact absurd hgw g⟩)
      have h9 := hN.1 w hm
      simp only [xnw, List.mem_cons, List.not_mem_nil, or_false] at hm
      rcases hm with rfl | rfl | rfl | rfl | rfl | rfl <;> exact va_tabs rfl rfl h9
  refine vx_throwS (names := ["java/lang/RuntimeException", "java/lang/Exception"]) (A := fun q => B0 ≤ q) hexec hb hl hown hcls (by decide +kernel) hk hini hsa hat' hgood hN.2.2.2.1 hN.2.2.2.2 hS hsize d0 d3 d4 d6 d9 (fun x hx => (hout x hx).elim) hRframes hRlocals hRcells hRslots hlocks ?_ hS.2.2 hc hs
  intro t hvm hz hq
  have hF : va_F (fun q => B0 ≤ q) s t := ⟨Nat.le_trans hS.1 hz, fun q h1 h2 => by rw [hq q (Nat.lt_of_lt_of_le h1 hS.1)]; exact hS.2.1 q h1 h2⟩
  exact ⟨⟨h, hw, hP.kept (fun k sh hs => hq _ (hP.lt hs))⟩, hF⟩
theorem xg_arets {α : Type} {enc : α → Option Value} {K : α → xH → Prop} {r : α} {v : Value} {ty : FieldType} (hexec : p.tables.exec = Jvm.exec) (hb : c.code = cc) (hr : meth.sig.returnType = some ty) (hrt : (∃ n, ty = .object n) ∨ ∃ t, ty = .array t) (hv : v = .null ∨ ∃ a, v = .ref a) (hv2 : enc r = some v) (hlocks : meth.locks = false) (hB0 : B0 ≤ s.heap.size) (hP : XP ad D T h H) (hK : XK D T s) (hN : XN B0 s s.heap) (hS : va_S (fun q => B0 ≤ q) s.heap H locs) (hdg : decode cc pc = .ok (.areturn, 1)) (hc : cells ≤ mc) (hs : slots ≤ ms) (hw : K r h) : W p l e R s m args below meth c H locs cells slots (MQ below (XQ B0 ad D T enc K) args s mc ms (fun q => B0 ≤ q)) (F0 m pc ls [v]) :=
  W.widen hc hs (W.aret hexec hb hr hrt hv (fun t ht hW => ⟨⟨r, h, by rw [hv2], hw, by rw [ht]; exact hP⟩, hS.F ht⟩) hS.2.2 hdg)
theorem xg_out {α : Type} {enc : α → Option Value} {K : α → xH → Prop} {KX : String → xH → Prop} {E : String} {ce : Cell} {q : Addr} (hout : ∀ x ∈ c.exceptionTable.toList, False) (hlocks : meth.locks = false) (hP : XP ad D T h H) (hS : va_S (fun q => B0 ≤ q) s.heap H locs) (hce : H[q]? = some ce) (hcv : ce.vm = .none) (hcl : s.vm.findClass E = some ce.cls) (hc : cells ≤ mc) (hs : slots ≤ ms) (hw : KX E h) :
    vx_W p l e R s m args below meth c H locs cells slots (vx_MQ below (XQ B0 ad D T enc K) (XX B0 ad D T KX) args s mc ms (fun q => B0 ≤ q)) (F0 m pc ls rest) q :=
  vx_out (fun x hx => (hout x hx).elim) hlocks hce hcv hcl (fun t ht _ => ⟨⟨h, hw, by rw [ht]; exact hP⟩, hS.F ht⟩) hS.2.2 hc hs
theorem xg_cast {E : String} (hN : XN B0 s H0) (hm : (Cond.castable E E) ∈ xnw) : (Cond.castable E E).before args s = true := va_tabs rfl rfl (hN.1 _ hm)
theorem xg_catchT {own name : String} {ce : Cell} {q9 : Addr} {hh : List (Nat × Nat × Nat × Nat)} (hown : s.vm.findClass own = some m.cls) (htab : c.exceptionTable.toList = tableOf hh) (i : Nat) {q : Nat × Nat × Nat × Nat} (hq : hh[i]? = some q)
    (hpass : ∀ z ∈ (tableOf hh).take i, covers z pc = false ∨ (z.catchType ≠ 0 ∧ ∃ nm : String, (Cond.classLink own z.catchType nm).before args s = true ∧ va_Nc name nm s)) (hcov : covers ⟨q.1, q.2.1, q.2.2.1, q.2.2.2⟩ pc = true) (h0 : q.2.2.2 ≠ 0)
    (hlink : (Cond.classLink own q.2.2.2 name).before args s = true) (hcast : (Cond.castable name name).before args s = true) (hce : H[q9]? = some ce) (hcv : ce.vm = .none) (hcl : s.vm.findClass name = some ce.cls)
    (kk : W p l e R s m args below meth c H locs cells slots Q (F0 m q.2.2.1 ls [.ref q9])) : vx_W p l e R s m args below meth c H locs cells slots Q (F0 m pc ls rest) q9 := by
  have hi : (tableOf hh)[i]? = some ⟨q.1, q.2.1, q.2.2.1, q.2.2.2⟩ := by simp [tableOf, hq]
  have hil := (List.getElem?_eq_some_iff.mp hi).1
  have hsp : c.exceptionTable.toList = (tableOf hh).take i ++ ⟨q.1, q.2.1, q.2.2.1, q.2.2.2⟩ :: (tableOf hh).drop (i + 1) := by
    rw [htab, ← (List.getElem?_eq_some_iff.mp hi).2]
    rw [List.getElem_cons_drop, List.take_append_drop]
  exact vx_catch hown _ ⟨q.1, q.2.1, q.2.2.1, q.2.2.2⟩ _ hsp hpass hcov h0 hlink hcast hce hcv hcl kk
theorem xcatq (o : Option Nat) : (va_rf o).category = 1 := by cases o <;> rfl
theorem xg_lcmpeq (hexec : p.tables.exec = Jvm.exec) (hb : c.code = cc) {x y : Int32} {off : Int} {tgt : Nat} (hdg : decode cc pc = .ok (.lcmp, 1)) (hdg2 : decode cc (pc + 1) = .ok (.ifCond .eq off, 3)) (ht : ((pc + 1 : Nat) : Int) + off = (tgt : Int))
    (kt : x = y → W p l e R s m args below meth c H locs cells slots Q (F0 m tgt ls rest)) (kf : ¬ x = y → W p l e R s m args below meth c H locs cells slots Q (F0 m (pc + 1 + 3) ls rest)) : W p l e R s m args below meth c H locs cells slots Q (F0 m pc ls (.long y.toInt64 :: .long x.toInt64 :: rest)) := by
  have e : lg_cmp x.toInt64 y.toInt64 = 0 ↔ x = y := by
    have hinj : x.toInt64 = y.toInt64 ↔ x = y := by
      constructor
      · intro hh
        have h2 := congrArg Int64.toInt hh
        simp only [Int32.toInt_toInt64] at h2
        exact Int32.toInt_inj.mp h2
      · intro hh; rw [hh]
    unfold lg_cmp
    by_cases h1 : y.toInt64 < x.toInt64
    · simp only [h1, if_true]
      constructor
      · intro q; exact absurd q (by decide)
      · intro q; subst q; exact absurd h1 (by simp)
    · simp only [h1, if_false]
      by_cases h2 : x.toInt64 = y.toInt64
      · simp [h2, hinj.mp h2]
      · simp only [h2, if_false]
        constructor
        · intro q; exact absurd q (by decide)
        · intro q; exact absurd (hinj.mpr q) h2
  refine W.lcmp hexec hb hdg ?_
  exact lv_if_eq hexec hb hdg2 ht (fun q => kt (e.mp q)) (fun q => kf (fun z => q (e.mpr z)))
theorem xg_pass0 {own name : String} {pc : Nat} {hh : List (Nat × Nat × Nat × Nat)} : ∀ z ∈ (tableOf hh).take 0, covers z pc = false ∨ (z.catchType ≠ 0 ∧ ∃ nm : String, (Cond.classLink own z.catchType nm).before args s = true ∧ va_Nc name nm s) := fun z hz => by simp at hz
theorem xg_pass1 {own name n1 : String} {pc : Nat} {a : Nat × Nat × Nat × Nat} {hh : List (Nat × Nat × Nat × Nat)} (h1 : (Cond.classLink own a.2.2.2 n1).before args s = true) (z1 : a.2.2.2 ≠ 0) (g1 : va_Nc name n1 s) : ∀ z ∈ (tableOf (a :: hh)).take 1, covers z pc = false ∨ (z.catchType ≠ 0 ∧ ∃ nm : String, (Cond.classLink own z.catchType nm).before args s = true ∧ va_Nc name nm s) := fun z hz => by
  simp [tableOf] at hz
  subst hz
  exact Or.inr ⟨z1, n1, h1, g1⟩
theorem xg_pass2 {own name n1 n2 : String} {pc : Nat} {a b : Nat × Nat × Nat × Nat} {hh : List (Nat × Nat × Nat × Nat)} (h1 : (Cond.classLink own a.2.2.2 n1).before args s = true) (z1 : a.2.2.2 ≠ 0) (g1 : va_Nc name n1 s) (h2 : (Cond.classLink own b.2.2.2 n2).before args s = true) (z2 : b.2.2.2 ≠ 0) (g2 : va_Nc name n2 s) : ∀ z ∈ (tableOf (a :: b :: hh)).take 2, covers z pc = false ∨ (z.catchType ≠ 0 ∧ ∃ nm : String, (Cond.classLink own z.catchType nm).before args s = true ∧ va_Nc name nm s) := fun z hz => by
  simp [tableOf] at hz
  rcases hz with rfl | rfl
  · exact Or.inr ⟨z1, n1, h1, g1⟩
  · exact Or.inr ⟨z2, n2, h2, g2⟩
end XROWS
