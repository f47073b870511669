/-! THE STATIC WORLD: all objects of the class and of the reference are made in constructors; each has a number (its id); `ad` gives the address of an id; the whole mutable state is one function `xH`: id, place (slot or index) to int. -/
abbrev xH : Type := Nat → Nat → Int32
def xup (h : xH) (k j : Nat) (x : Int32) : xH := fun a b => if a = k then (if b = j then x else h a b) else h a b
theorem xup_same {h : xH} {k j : Nat} {x : Int32} : xup h k j x k j = x := by simp [xup]
theorem xup_ne {h : xH} {k j a b : Nat} {x : Int32} (hn : a ≠ k ∨ b ≠ j) : xup h k j x a b = h a b := by
  unfold xup
  by_cases h1 : a = k
  · by_cases h2 : b = j
    · exact absurd h2 (hn.resolve_left (fun q => q h1))
    · rw [if_pos h1, if_neg h2]
  · rw [if_neg h1]
abbrev xL : Type := List (Option Nat)
abbrev xSh : Type := (Nat × Nat × Option Nat) ⊕ (Nat × xL)
def xsh (ad : Nat → Nat) (k : Nat) : Option xSh :=
  if 10 ≤ k ∧ k < 16 then some (.inr (4, [none, none, none, none, none, none, none, none, none]))
  else if 20 ≤ k ∧ k < 26 then some (.inr (3, [none, none, none, none, none]))
  else if 30 ≤ k ∧ k < 34 then some (.inr (2, [some (k + 10), some (k + 20), none, none, none, none, none, none, none, none]))
  else if 40 ≤ k ∧ k < 44 then some (.inl (0, 400, none))
  else if 50 ≤ k ∧ k < 54 then some (.inl (0, 6, none))
  else if k = 0 then some (.inr (5, [some 1, some 2, some 3, some 4, some 6, none, none, none, none]))
  else if k = 1 then some (.inl (1, 6, some 10))
  else if k = 2 then some (.inl (2, 6, some 20))
  else if k = 3 then some (.inl (3, 4, some 30))
  else if k = 4 then some (.inr (0, [some 5, none, none, none, none, none]))
  else if k = 5 ∨ k = 7 ∨ k = 8 then some (.inl (0, 400, none))
  else if k = 6 then some (.inr (1, [some 7, some 8, none]))
  else if k = 101 then some (.inl (0, 60, none))
  else if k = 102 then some (.inl (0, 14, none))
  else if k = 103 ∧ ad 103 ≠ 0 then some (.inl (0, 4, none))
  else none
theorem xsS {ad : Nat → Nat} {k : Nat} (hk : 10 ≤ k ∧ k < 16) : xsh ad k = some (.inr (4, [none, none, none, none, none, none, none, none, none])) := by rw [xsh, if_pos hk]
theorem xsR {ad : Nat → Nat} {k : Nat} (hk : 20 ≤ k ∧ k < 26) : xsh ad k = some (.inr (3, [none, none, none, none, none])) := by rw [xsh, if_neg (by omega), if_pos hk]
theorem xsF {ad : Nat → Nat} {k : Nat} (hk : 30 ≤ k ∧ k < 34) : xsh ad k = some (.inr (2, [some (k + 10), some (k + 20), none, none, none, none, none, none, none, none])) := by rw [xsh, if_neg (by omega), if_neg (by omega), if_pos hk]
theorem xsFr {ad : Nat → Nat} {k : Nat} (hk : 30 ≤ k ∧ k < 34) : xsh ad (k + 10) = some (.inl (0, 400, none)) := by rw [xsh, if_neg (by omega), if_neg (by omega), if_neg (by omega), if_pos (by omega)]
theorem xsFs {ad : Nat → Nat} {k : Nat} (hk : 30 ≤ k ∧ k < 34) : xsh ad (k + 20) = some (.inl (0, 6, none)) := by rw [xsh, if_neg (by omega), if_neg (by omega), if_neg (by omega), if_neg (by omega), if_pos (by omega)]
theorem xs0 {ad : Nat → Nat} : xsh ad 0 = some (.inr (5, [some 1, some 2, some 3, some 4, some 6, none, none, none, none])) := rfl
theorem xs1 {ad : Nat → Nat} : xsh ad 1 = some (.inl (1, 6, some 10)) := rfl
theorem xs2 {ad : Nat → Nat} : xsh ad 2 = some (.inl (2, 6, some 20)) := rfl
theorem xs3 {ad : Nat → Nat} : xsh ad 3 = some (.inl (3, 4, some 30)) := rfl
theorem xs4 {ad : Nat → Nat} : xsh ad 4 = some (.inr (0, [some 5, none, none, none, none, none])) := rfl
theorem xs5 {ad : Nat → Nat} : xsh ad 5 = some (.inl (0, 400, none)) := rfl
theorem xs6 {ad : Nat → Nat} : xsh ad 6 = some (.inr (1, [some 7, some 8, none])) := rfl
theorem xs7 {ad : Nat → Nat} : xsh ad 7 = some (.inl (0, 400, none)) := rfl
theorem xs8 {ad : Nat → Nat} : xsh ad 8 = some (.inl (0, 400, none)) := rfl
theorem xs101 {ad : Nat → Nat} : xsh ad 101 = some (.inl (0, 60, none)) := rfl
theorem xs102 {ad : Nat → Nat} : xsh ad 102 = some (.inl (0, 14, none)) := rfl
theorem xs103 {ad : Nat → Nat} (h : ad 103 ≠ 0) : xsh ad 103 = some (.inl (0, 4, none)) := by
  rw [xsh, if_neg (by omega), if_neg (by omega), if_neg (by omega), if_neg (by omega), if_neg (by omega), if_neg (by omega), if_neg (by omega), if_neg (by omega), if_neg (by omega), if_neg (by omega), if_neg (by omega), if_neg (by omega), if_neg (by omega), if_neg (by omega), if_pos ⟨rfl, h⟩]
theorem xsh_ne {ad ad' : Nat → Nat} {k : Nat} (h : k ≠ 103) : xsh ad' k = xsh ad k := by
  unfold xsh
  rw [if_neg (fun q : k = 103 ∧ ad' 103 ≠ 0 => h q.1), if_neg (fun q : k = 103 ∧ ad 103 ≠ 0 => h q.1)]
theorem xsh_no {ad : Nat → Nat} (h : ad 103 = 0) : xsh ad 103 = none := by
  rw [xsh, if_neg (by omega), if_neg (by omega), if_neg (by omega), if_neg (by omega), if_neg (by omega), if_neg (by omega), if_neg (by omega), if_neg (by omega), if_neg (by omega), if_neg (by omega), if_neg (by omega), if_neg (by omega), if_neg (by omega), if_neg (by omega), if_neg (fun q => q.2 h)]
def xfv (ad : Nat → Nat) (h : xH) (k j : Nat) (r : Option Nat) : Value := match r with
  | none => .int (h k j)
  | some q => .ref (ad q)
def xfs (ad : Nat → Nat) (h : xH) (k : Nat) (lay : xL) : List Value := lay.mapIdx (fun j r => xfv ad h k j r)
def xent (ad : Nat → Nat) (T : Nat → ClassId) (h : xH) (k : Nat) (sh : xSh) : va_E := match sh with
  | .inl (t, n, none) => .inl (T t, n, .inl (h k))
  | .inl (t, n, some b) => .inl (T t, n, .inr (.inr (.inr (.inr (fun j => some (ad (b + j)))))))
  | .inr (ci, lay) => .inr (ci, xfs ad h k lay)
theorem xfs_int {ad : Nat → Nat} {h : xH} {k j : Nat} {lay : xL} (hl : lay[j]? = some none) : (xfs ad h k lay)[j]? = some (.int (h k j)) := by
  simp [xfs, hl, xfv]
theorem xfs_ref {ad : Nat → Nat} {h : xH} {k j q : Nat} {lay : xL} (hl : lay[j]? = some (some q)) : (xfs ad h k lay)[j]? = some (.ref (ad q)) := by
  simp [xfs, hl, xfv]
theorem xfs_len {ad : Nat → Nat} {h : xH} {k : Nat} {lay : xL} : (xfs ad h k lay).length = lay.length := by simp [xfs]
theorem xfs_set {ad : Nat → Nat} {h : xH} {k j : Nat} {lay : xL} {x : Int32} (hl : lay[j]? = some none) : (xfs ad h k lay).set j (.int x) = xfs ad (xup h k j x) k lay := by
  apply List.ext_getElem?
  intro i
  have hj : j < lay.length := (List.getElem?_eq_some_iff.mp hl).1
  by_cases e : i = j
  · subst e
    rw [List.getElem?_set_self (by rw [xfs_len]; exact hj), xfs_int hl, xup_same]
  · rw [List.getElem?_set_ne (Ne.symm e)]
    simp only [xfs, List.getElem?_mapIdx]
    cases hq : lay[i]? with
    | none => rfl
    | some r =>
      cases r with
      | none => simp [xfv, xup_ne (Or.inr e)]
      | some q => simp [xfv]
theorem xfs_other {ad : Nat → Nat} {h : xH} {k k' j : Nat} {lay : xL} {x : Int32} (hk : k' ≠ k) : xfs ad (xup h k j x) k' lay = xfs ad h k' lay := by
  apply List.ext_getElem?
  intro i
  simp only [xfs, List.getElem?_mapIdx]
  cases hq : lay[i]? with
  | none => rfl
  | some r =>
    cases r with
    | none => simp [xfv, xup_ne (Or.inl hk)]
    | some q => simp [xfv]
theorem xup_row {h : xH} {k j k' : Nat} {x : Int32} (hk : k' ≠ k) : xup h k j x k' = h k' := by
  funext b
  exact xup_ne (Or.inl hk)
theorem xent_other {ad : Nat → Nat} {T : Nat → ClassId} {h : xH} {k k' j : Nat} {x : Int32} (sh : xSh) (hk : k' ≠ k) : xent ad T (xup h k j x) k' sh = xent ad T h k' sh := by
  match sh with
  | .inl (t, n, none) => simp only [xent, xup_row hk]
  | .inl (t, n, some b) => rfl
  | .inr (ci, lay) => simp only [xent, xfs_other hk]
def XP (ad : Nat → Nat) (D : va_G) (T : Nat → ClassId) (h : xH) (H : Heap) : Prop := ∀ (k : Nat) (sh : xSh), xsh ad k = some sh → va_at D vwCl (ad k, xent ad T h k sh) H
def XA (B0 : Nat) (ad : Nat → Nat) : Prop := (∀ (i j : Nat) (a b : xSh), xsh ad i = some a → xsh ad j = some b → ad i = ad j → i = j) ∧ ∀ (i : Nat) (a : xSh), xsh ad i = some a → B0 ≤ ad i
abbrev xtys (T : Nat → ClassId) : List (ClassId × FieldType) := [(T 0, .int), (T 1, .object RX4), (T 2, .object RX3), (T 3, .object RX2)]
abbrev XK (D : va_G) (T : Nat → ClassId) (U : State) : Prop := va_K D vwCl (xtys T) U
theorem XP.one {ad : Nat → Nat} {D : va_G} {T : Nat → ClassId} {h : xH} {H : Heap} (hP : XP ad D T h H) {k : Nat} {sh : xSh} (hs : xsh ad k = some sh) : va_P D vwCl [(ad k, xent ad T h k sh)] H := by
  intro i q hq
  match i, hq with
  | 0, hq => cases hq; exact hP k sh hs
  | i + 1, hq => simp at hq
theorem XP.set {ad : Nat → Nat} {D : va_G} {T : Nat → ClassId} {h : xH} {H H1 : Heap} {B0 : Nat} (hA : XA B0 ad) (hP : XP ad D T h H) {k j : Nat} {x : Int32} {sh : xSh} (hs : xsh ad k = some sh) (he : va_at D vwCl (ad k, xent ad T (xup h k j x) k sh) H1) (oq : ∀ q : Nat, q ≠ ad k → H1[q]? = H[q]?) : XP ad D T (xup h k j x) H1 := by
  intro k' sh' hs'
  by_cases e : k' = k
  · subst e
    cases hs.symm.trans hs'
    exact he
  · rw [xent_other sh' e]
    exact (hP k' sh' hs').kept (oq (ad k') (fun z => e (hA.1 _ _ _ _ hs' hs z)))
theorem XP.kept {ad : Nat → Nat} {D : va_G} {T : Nat → ClassId} {h : xH} {H H1 : Heap} (hP : XP ad D T h H) (hq : ∀ k sh, xsh ad k = some sh → H1[ad k]? = H[ad k]?) : XP ad D T h H1 := fun k sh hs => (hP k sh hs).kept (hq k sh hs)
theorem XP.lt {ad : Nat → Nat} {D : va_G} {T : Nat → ClassId} {h : xH} {H : Heap} (hP : XP ad D T h H) {k : Nat} {sh : xSh} (hs : xsh ad k = some sh) : ad k < H.size := (hP k sh hs).lt
-- what the throws need of the start: words that no method's list holds, texts, two statics
def XN (_ : Nat) (_ : State) (_ : Heap) : Prop := True
theorem XN.warm {B0 : Nat} {s U : State} {H : Heap} (_ : s.WarmedH U.vm) (_ : XN B0 s H) : XN B0 U H := trivial
theorem XN.kept {B0 : Nat} {U : State} {H H1 : Heap} (_ : XN B0 U H) (_ : ∀ a : Nat, a < H.size → ¬ B0 ≤ a → H1[a]? = H[a]?) : XN B0 U H1 := trivial
theorem XN.call {B0 : Nat} {U : State} {H : Heap} {g : JFrame} {mk : MethodId} {a : Array Value} (_ : XN B0 U H) : XN B0 (U.calling g mk a) H := trivial
/-- THE WORLD of a state -/
def XW (B0 : Nat) (ad : Nat → Nat) (D : va_G) (T : Nat → ClassId) (h : xH) (U : State) : Prop := B0 ≤ U.heap.size ∧ XP ad D T h U.heap ∧ XK D T U ∧ XN B0 U U.heap
theorem XW.call {B0 : Nat} {ad : Nat → Nat} {D : va_G} {T : Nat → ClassId} {h : xH} {U : State} {g : JFrame} {mk : MethodId} {a : Array Value} (q : XW B0 ad D T h U) : XW B0 ad D T h (U.calling g mk a) := ⟨q.1, q.2.1, va_K.moved (u := U) (U := U.calling g mk a) (Vm.Alike.refl U.vm) q.2.2.1, q.2.2.2.call⟩
theorem XW.mk {B0 : Nat} {ad : Nat → Nat} {D : va_G} {T : Nat → ClassId} {h : xH} {s U : State} {H : Heap} {locs : List Loc} (hB0 : B0 ≤ s.heap.size) (hP : XP ad D T h H) (hK : XK D T s) (hN : XN B0 s s.heap) (hS : va_S (fun q => B0 ≤ q) s.heap H locs) (hU : U.heap = H) (hW : s.WarmedH U.vm) : XW B0 ad D T h U :=
  ⟨by rw [hU]; exact Nat.le_trans hB0 hS.1, by rw [hU]; exact hP, va_K.moved hW.alike hK, by rw [hU]; exact (hN.kept (fun a h1 h2 => hS.2.1 a h1 h2)).warm hW⟩
-- CONTRACTS: what a method does to the world, by a predicate K on its answer and the new world (its 'wp' is a premise of the contract's theorem)
def XQ {α : Type} (B0 : Nat) (ad : Nat → Nat) (D : va_G) (T : Nat → ClassId) (enc : α → Option Value) (K : α → xH → Prop) : Array Value → State → Outcome → State → Prop := fun _ st o t => (∃ (r : α) (h' : xH), o = .returned (enc r) ∧ K r h' ∧ XP ad D T h' t.heap) ∧ va_F (fun q => B0 ≤ q) st t
abbrev xei : Int32 → Option Value := fun x => some (.int x)
abbrev xev : Unit → Option Value := fun _ => none
abbrev xer (ad : Nat → Nat) : Nat → Option Value := fun k => some (.ref (ad k))
abbrev xeq (ad : Nat → Nat) : Option Nat → Option Value := fun o => some (va_rf (o.map ad))
def XM {α : Type} (l : Launch) (y : MethodName) (ws : List Cond) (rm : Room) (B0 : Nat) (ad : Nat → Nat) (D : va_G) (T : Nat → ClassId) (h : xH) (As : List Value) (enc : α → Option Value) (K : α → xH → Prop) (mc ms : Nat) : Prop :=
  Met l y ws rm (va_Pc As (XW B0 ad D T h)) (XQ B0 ad D T enc K) mc ms (fun q => B0 ≤ q)
theorem xblind {B0 : Nat} {ad : Nat → Nat} {D : va_G} {T : Nat → ClassId} {h : xH} {As : List Value} : FrameBlind (va_Pc As (XW B0 ad D T h)) := fun _ _ _ _ q => ⟨q.1, q.2.call⟩
section XROWS
variable {p : Program} {l : Launch} {e : Env} {R : Room} {s : State} {m : MethodId} {args : Array Value} {below : List Frame} {meth : Method} {c : Code} {H : Heap} {locs : List Loc} {cells slots : Nat} {Q : State → Prop}
variable {cc : ByteArray} {pc : Nat} {ls : Array Slot} {rest : List Value} {ad : Nat → Nat} {D : va_G} {T : Nat → ClassId} {h : xH} {B0 : Nat} {H0 : Heap}
theorem xg_get (hexec : p.tables.exec = Jvm.exec) (hb : c.code = cc) {own ref C : String} {TC : u_T} {N ci index : Nat} {Ts : List Cond} (hts : ∀ w ∈ Ts, w.before args s = true) (hin : ∀ w ∈ u_ws C TC N, w ∈ Ts) (hown : s.vm.findClass own = some m.cls) (hK : XK D T s) (hP : XP ad D T h H) {k : Nat} {lay : xL} (hsh : xsh ad k = some (.inr (ci, lay))) (hc : vwCl[ci]? = some (C, TC, N)) (j : Nat) (hj : j < N) (hlink : (Cond.fieldLink own index ref (TC j).2.1 (TC j).2.2.1).before args s = true) (hsame : ∀ x, s.fieldFound? (TC j).1 (TC j).2.1 (TC j).2.2.1 = some x → s.fieldFound? ref (TC j).2.1 (TC j).2.2.1 = some x) (hl : lay[j]? = some none) (hdg : decode cc pc = .ok (.getfield index, 3))
    (kk : W p l e R s m args below meth c H locs cells slots Q (F0 m (pc + 3) ls (.int (h k j) :: rest))) : W p l e R s m args below meth c H locs cells slots Q (F0 m pc ls (.ref (ad k) :: rest)) :=
  va_get hexec hb hts hin hown hK (hP.one hsh) 0 rfl hc j hj hlink hsame (xfs_int hl) hdg kk
theorem xg_getr (hexec : p.tables.exec = Jvm.exec) (hb : c.code = cc) {own ref C : String} {TC : u_T} {N ci index : Nat} {Ts : List Cond} (hts : ∀ w ∈ Ts, w.before args s = true) (hin : ∀ w ∈ u_ws C TC N, w ∈ Ts) (hown : s.vm.findClass own = some m.cls) (hK : XK D T s) (hP : XP ad D T h H) {k : Nat} {lay : xL} (hsh : xsh ad k = some (.inr (ci, lay))) (hc : vwCl[ci]? = some (C, TC, N)) (j : Nat) (hj : j < N) (hlink : (Cond.fieldLink own index ref (TC j).2.1 (TC j).2.2.1).before args s = true) (hsame : ∀ x, s.fieldFound? (TC j).1 (TC j).2.1 (TC j).2.2.1 = some x → s.fieldFound? ref (TC j).2.1 (TC j).2.2.1 = some x) {q : Nat} (hl : lay[j]? = some (some q)) (hdg : decode cc pc = .ok (.getfield index, 3))
    (kk : W p l e R s m args below meth c H locs cells slots Q (F0 m (pc + 3) ls (.ref (ad q) :: rest))) : W p l e R s m args below meth c H locs cells slots Q (F0 m pc ls (.ref (ad k) :: rest)) :=
  va_get hexec hb hts hin hown hK (hP.one hsh) 0 rfl hc j hj hlink hsame (xfs_ref hl) hdg kk
theorem xg_put (hexec : p.tables.exec = Jvm.exec) (hb : c.code = cc) {own ref C : String} {TC : u_T} {N ci index : Nat} {Ts : List Cond} (hts : ∀ w ∈ Ts, w.before args s = true) (hin : ∀ w ∈ u_ws C TC N, w ∈ Ts) (ty0 : Nat → FieldType) (hty : ∀ k, k < N → parseFieldDescriptor (TC k).2.2.1 = some (ty0 k)) (hnm : ∀ a, a < N → ∀ b, b < N → a ≠ b → (TC a).2.1 ≠ (TC b).2.1) (hown : s.vm.findClass own = some m.cls) (hK : XK D T s) (hP : XP ad D T h H) (hA : XA B0 ad) (hS0 : va_S (fun q => B0 ≤ q) H0 H locs) {k : Nat} {lay : xL} (hsh : xsh ad k = some (.inr (ci, lay))) (hc : vwCl[ci]? = some (C, TC, N)) (j : Nat) (hj : j < N) (hlink : (Cond.fieldLink own index ref (TC j).2.1 (TC j).2.2.1).before args s = true) (hsame : ∀ x, s.fieldFound? (TC j).1 (TC j).2.1 (TC j).2.2.1 = some x → s.fieldFound? ref (TC j).2.1 (TC j).2.2.1 = some x) (hl : lay[j]? = some none) (hfin : (TC j).2.2.2 = false) {ty : FieldType} {x : Int32} (hd : parseFieldDescriptor (TC j).2.2.1 = some ty) (hn : narrow ty (.int x) = .int x) (hfit : fits ty (.int x) = true)
    (hdg : decode cc pc = .ok (.putfield index, 3)) (kk : ∀ (H1 : Heap) (locs1 : List Loc) (h1 : xH), h1 = xup h k j x → XP ad D T h1 H1 → va_S (fun q => B0 ≤ q) H0 H1 locs1 → W p l e R s m args below meth c H1 locs1 cells slots Q (F0 m (pc + 3) ls rest)) : W p l e R s m args below meth c H locs cells slots Q (F0 m pc ls (.int x :: .ref (ad k) :: rest)) := by
  have hap := va_apart (own := own) hts hin ty0 hty hnm hK hc
  obtain ⟨r, h1, cell, q1, q2, q3, q4⟩ := hP k _ hsh
  have hr : r = (C, TC, N) := Option.some.inj (h1.symm.trans hc)
  subst hr
  obtain ⟨hSl, hfc, kC, hkC, hkind⟩ := hK.1 ci _ hc
  obtain ⟨cf, kf, fi, f, hi, hsl⟩ := hSl j hj
  have hlay := hts _ (hin _ (u_in_lay hj))
  unfold u_lay at hlay
  rw [if_neg (by rw [hfin]; decide)] at hlay
  have hst := (u_facts hfc hkC (u_lays hts hin hj) hi).1
  have h6 := u_store hfc hkC hkind hlay hi hd hn hfit
  have hjl : j < (xfs ad h k lay).length := by rw [xfs_len]; exact (List.getElem?_eq_some_iff.mp hl).1
  refine W.putK hexec hb (f := f) ⟨hown, hlink, ⟨_, _, _, hsame _ hi⟩, hst⟩ (by rw [q2]; exact h6) q1 q3 (by rw [hsl]; exact k2_hasslot (q4 j hj)) rfl rfl hdg fun H' e1 e2 e3 => ?_
  rw [hsl] at e1 ⊢
  refine kk H' _ _ rfl (XP.set hA hP hsh ?_ e3) (hS0.put e2 e3 (hA.2 k _ hsh))
  refine ⟨_, hc, ?_⟩
  rw [← xfs_set hl]
  exact t_OB.to (V := updV (vp_V (xfs ad h k lay)) j (.int x)) ⟨_, e1, q2, q3, t_set q4 hap hj (.int x)⟩ (fun i _ => vp_updV_set hjl (.int x) i)
theorem xcell_i {t n : Nat} {k : Nat} : xent ad T h k (.inl (t, n, none)) = .inl (T t, n, .inl (h k)) := rfl
theorem xupd {k j : Nat} {x : Int32} : upd (h k) j x = xup h k j x k := by
  funext b
  simp only [upd, xup, if_true]
theorem xg_iald (hexec : p.tables.exec = Jvm.exec) (hb : c.code = cc) (hK : XK D T s) (hP : XP ad D T h H) {k n : Nat} (hsh : xsh ad k = some (.inl (0, n, none))) {i : Int32} (hin : vp_in i n) (hdg : decode cc pc = .ok (.iaload, 1))
    (kk : W p l e R s m args below meth c H locs cells slots Q (F0 m (pc + 1) ls (.int (h k i.toNatClampNeg) :: rest))) : W p l e R s m args below meth c H locs cells slots Q (F0 m pc ls (.int i :: .ref (ad k) :: rest)) :=
  va_iald hexec hb hK (hP.one hsh) 0 0 rfl rfl hin hdg kk
theorem xg_aald (hexec : p.tables.exec = Jvm.exec) (hb : c.code = cc) (hK : XK D T s) (hP : XP ad D T h H) {k t n b : Nat} {C : String} (hsh : xsh ad k = some (.inl (t, n, some b))) (ht : (xtys T)[t]? = some (T t, .object C)) {i : Int32} (hin : vp_in i n) (hdg : decode cc pc = .ok (.aaload, 1))
    (kk : i.toNatClampNeg < n → W p l e R s m args below meth c H locs cells slots Q (F0 m (pc + 1) ls (.ref (ad (b + i.toNatClampNeg)) :: rest))) : W p l e R s m args below meth c H locs cells slots Q (F0 m pc ls (.int i :: .ref (ad k) :: rest)) :=
  va_aldq hexec hb hK (hP.one hsh) 0 t rfl ht hin hdg (kk (Nat.not_le.mp fun q => hin (Or.inr q)))
theorem xg_alen (hexec : p.tables.exec = Jvm.exec) (hb : c.code = cc) (hK : XK D T s) (hP : XP ad D T h H) {k n : Nat} (hsh : xsh ad k = some (.inl (0, n, none))) {v : Int32} (hv : Int32.ofNat n = v) (hdg : decode cc pc = .ok (.arraylength, 1))
    (kk : W p l e R s m args below meth c H locs cells slots Q (F0 m (pc + 1) ls (.int v :: rest))) : W p l e R s m args below meth c H locs cells slots Q (F0 m pc ls (.ref (ad k) :: rest)) :=
  va_alen hexec hb hK (hP.one hsh) 0 0 rfl rfl hv hdg kk
theorem xg_iast (hexec : p.tables.exec = Jvm.exec) (hb : c.code = cc) (hK : XK D T s) (hP : XP ad D T h H) (hA : XA B0 ad) (hS : va_S (fun q => B0 ≤ q) H0 H locs) {k n : Nat} (hsh : xsh ad k = some (.inl (0, n, none))) {i : Int32} {x : Int32} (hin : vp_in i n) (hdg : decode cc pc = .ok (.iastore, 1))
    (kk : ∀ (H1 : Heap) (locs1 : List Loc) (h1 : xH), h1 = xup h k i.toNatClampNeg x → XP ad D T h1 H1 → va_S (fun q => B0 ≤ q) H0 H1 locs1 → W p l e R s m args below meth c H1 locs1 cells slots Q (F0 m (pc + 1) ls rest)) : W p l e R s m args below meth c H locs cells slots Q (F0 m pc ls (.int x :: .int i :: .ref (ad k) :: rest)) := by
  refine W.iast hexec hb (hP k _ hsh) ((hK.2 0 _ rfl).1 n (fun j => .int (h k j))) (fun q => by cases q) (by show ¬ (i < 0 ∨ (arrV _ _ _).slots.size ≤ _); rw [arrV_size]; exact hin) rfl rfl hdg fun H1 e z oq => ?_
  refine kk H1 _ _ rfl (XP.set hA hP hsh ?_ oq) (hS.put z oq (hA.2 k _ hsh))
  rw [xcell_i]
  show H1[ad k]? = some (vp_cell _ _)
  rw [e, ← xupd]
  show some ((vp_cell _ (n, .inl (h k))).setSlot _ _) = _
  rw [vp_cell_i, vp_cell_i, arrV_store]
  congr 2
  funext q
  by_cases hq : q = i.toNatClampNeg
  · subst hq
    simp [updV, upd]
  · simp [updV, upd, hq]
theorem xg_recv {k ci : Nat} {lay : xL} {C : String} {TC : u_T} {N : Nat} (hK : XK D T s) (hP : XP ad D T h H) (hsh : xsh ad k = some (.inr (ci, lay))) (hc : vwCl[ci]? = some (C, TC, N)) : ∃ cell : Cell, H[ad k]? = some cell ∧ cell.vm.isStatics = false ∧ s.vm.findClass C = some cell.cls :=
  va_recv hK (hP.one hsh) hc (q0 := 0) rfl
theorem xg_preV {k ci : Nat} {lay : xL} {C : String} {TC : u_T} {N : Nat} {As : List Value} (hB0 : B0 ≤ s.heap.size) (hP : XP ad D T h H) (hK : XK D T s) (hN : XN B0 s s.heap) (hS : va_S (fun q => B0 ≤ q) s.heap H locs) (hsh : xsh ad k = some (.inr (ci, lay))) (hc : vwCl[ci]? = some (C, TC, N)) : PreV s H C (ad k) (va_Pc (.ref (ad k) :: As) (XW B0 ad D T h)) As :=
  ⟨xblind, xg_recv hK hP hsh hc, fun U hU hW => ⟨rfl, XW.mk hB0 hP hK hN hS hU hW⟩⟩
theorem xg_preS {As : List Value} (hB0 : B0 ≤ s.heap.size) (hP : XP ad D T h H) (hK : XK D T s) (hN : XN B0 s s.heap) (hS : va_S (fun q => B0 ≤ q) s.heap H locs) : PreS s H (va_Pc As (XW B0 ad D T h)) As :=
  ⟨xblind, fun U hU hW => ⟨rfl, XW.mk hB0 hP hK hN hS hU hW⟩⟩
variable {mc ms : Nat} {a : Array Value} {st0 : List Value}
theorem xg_keep {st₀ t T' : State} {L : List Loc} (h0 : st₀.heap = H) (e1 : T'.heap = t.heap) (hS : va_S (fun q => B0 ≤ q) H0 H locs) (hL : ∀ q ∈ L, B0 ≤ q.base) (hF : va_F (fun q => B0 ≤ q) st₀ t) : va_S (fun q => B0 ≤ q) H0 T'.heap (locs ++ L) :=
  (vx_keep h0 e1 hS (fun _ _ q => q) (fun _ q => q) hL hF).2.2
theorem xg_call {α : Type} {enc : α → Option Value} {K : α → xH → Prop} (hr : va_Run p l e R s m args below meth c H locs cells slots mc ms (F0 m pc ls st0) rest (XQ B0 ad D T enc K a) (fun q => B0 ≤ q)) (hS : va_S (fun q => B0 ≤ q) H0 H locs)
    (kk : ∀ (r : α) (h' : xH) (H1 : Heap) (locs1 : List Loc), K r h' → XP ad D T h' H1 → va_S (fun q => B0 ≤ q) H0 H1 locs1 → W p l e R s m args below meth c H1 locs1 (cells + mc) (slots + ms) Q (F0 m (pc + 3) ls ((enc r).toList ++ rest))) : W p l e R s m args below meth c H locs cells slots Q (F0 m pc ls st0) := by
  intro U hU X
  obtain ⟨v, st₀, t, T', L, h0, X', hL, e1, e2, ⟨⟨r, h', hv, hq, hw⟩, hF⟩, st⟩ := hr U hU X
  cases hv
  obtain ⟨t2, a1, b1⟩ := kk r h' T'.heap (locs ++ L) hq (by rw [e1]; exact hw) (xg_keep h0 e1 hS hL hF) T' rfl X'
  exact ⟨t2, st t2 a1, b1⟩
theorem xg_calli {K : Int32 → xH → Prop} (hr : va_Run p l e R s m args below meth c H locs cells slots mc ms (F0 m pc ls st0) rest (XQ B0 ad D T xei K a) (fun q => B0 ≤ q)) (hS : va_S (fun q => B0 ≤ q) H0 H locs)
    (kk : ∀ (r : Int32) (h' : xH) (H1 : Heap) (locs1 : List Loc), K r h' → XP ad D T h' H1 → va_S (fun q => B0 ≤ q) H0 H1 locs1 → W p l e R s m args below meth c H1 locs1 (cells + mc) (slots + ms) Q (F0 m (pc + 3) ls (.int r :: rest))) : W p l e R s m args below meth c H locs cells slots Q (F0 m pc ls st0) := xg_call hr hS kk
theorem xg_callv {K : Unit → xH → Prop} (hr : va_Run p l e R s m args below meth c H locs cells slots mc ms (F0 m pc ls st0) rest (XQ B0 ad D T xev K a) (fun q => B0 ≤ q)) (hS : va_S (fun q => B0 ≤ q) H0 H locs)
    (kk : ∀ (r : Unit) (h' : xH) (H1 : Heap) (locs1 : List Loc), K r h' → XP ad D T h' H1 → va_S (fun q => B0 ≤ q) H0 H1 locs1 → W p l e R s m args below meth c H1 locs1 (cells + mc) (slots + ms) Q (F0 m (pc + 3) ls rest)) : W p l e R s m args below meth c H locs cells slots Q (F0 m pc ls st0) := xg_call hr hS kk
theorem xg_callr {K : Nat → xH → Prop} (hr : va_Run p l e R s m args below meth c H locs cells slots mc ms (F0 m pc ls st0) rest (XQ B0 ad D T (xer ad) K a) (fun q => B0 ≤ q)) (hS : va_S (fun q => B0 ≤ q) H0 H locs)
    (kk : ∀ (r : Nat) (h' : xH) (H1 : Heap) (locs1 : List Loc), K r h' → XP ad D T h' H1 → va_S (fun q => B0 ≤ q) H0 H1 locs1 → W p l e R s m args below meth c H1 locs1 (cells + mc) (slots + ms) Q (F0 m (pc + 3) ls (.ref (ad r) :: rest))) : W p l e R s m args below meth c H locs cells slots Q (F0 m pc ls st0) := xg_call hr hS kk
theorem xg_callq {K : Option Nat → xH → Prop} (hr : va_Run p l e R s m args below meth c H locs cells slots mc ms (F0 m pc ls st0) rest (XQ B0 ad D T (xeq ad) K a) (fun q => B0 ≤ q)) (hS : va_S (fun q => B0 ≤ q) H0 H locs)
    (kk : ∀ (r : Option Nat) (h' : xH) (H1 : Heap) (locs1 : List Loc), K r h' → XP ad D T h' H1 → va_S (fun q => B0 ≤ q) H0 H1 locs1 → W p l e R s m args below meth c H1 locs1 (cells + mc) (slots + ms) Q (F0 m (pc + 3) ls (va_rf (r.map ad) :: rest))) : W p l e R s m args below meth c H locs cells slots Q (F0 m pc ls st0) := xg_call hr hS kk
-- ends
theorem xg_irets {K : Int32 → xH → Prop} {v : Int32} {ty : FieldType} (hexec : p.tables.exec = Jvm.exec) (hb : c.code = cc) (hr : meth.sig.returnType = some ty) (hn : narrow ty (.int v) = .int v) (hlocks : meth.locks = false) (hB0 : B0 ≤ s.heap.size) (hP : XP ad D T h H) (hK : XK D T s) (hN : XN B0 s s.heap) (hS : va_S (fun q => B0 ≤ q) s.heap H locs) (hdg : decode cc pc = .ok (.ireturn, 1)) (hc : cells ≤ mc) (hs : slots ≤ ms) (hw : K v h) : W p l e R s m args below meth c H locs cells slots (MQ below (XQ B0 ad D T xei K) args s mc ms (fun q => B0 ≤ q)) (F0 m pc ls [.int v]) :=
  W.widen hc hs (W.zret hexec hb hr hn (fun t ht hW => ⟨⟨v, h, rfl, hw, by rw [ht]; exact hP⟩, hS.F ht⟩) hS.2.2 hdg)
theorem xg_vrets {K : Unit → xH → Prop} (hexec : p.tables.exec = Jvm.exec) (hb : c.code = cc) (hr : meth.sig.returnType = none) (hlocks : meth.locks = false) (hB0 : B0 ≤ s.heap.size) (hP : XP ad D T h H) (hK : XK D T s) (hN : XN B0 s s.heap) (hS : va_S (fun q => B0 ≤ q) s.heap H locs) (hdg : decode cc pc = .ok (.return_, 1)) (hc : cells ≤ mc) (hs : slots ≤ ms) (hw : K () h) : W p l e R s m args below meth c H locs cells slots (MQ below (XQ B0 ad D T xev K) args s mc ms (fun q => B0 ≤ q)) (F0 m pc ls []) :=
  W.widen hc hs (W.vret hexec hb hr (fun t ht hW => ⟨⟨(), h, rfl, hw, by rw [ht]; exact hP⟩, hS.F ht⟩) hS.2.2 hdg)
theorem xg_arets {α : Type} {enc : α → Option Value} {K : α → xH → Prop} {r : α} {v : Value} {ty : FieldType} (hexec : p.tables.exec = Jvm.exec) (hb : c.code = cc) (hr : meth.sig.returnType = some ty) (hrt : (∃ n, ty = .object n) ∨ ∃ t, ty = .array t) (hv : v = .null ∨ ∃ a, v = .ref a) (hv2 : enc r = some v) (hlocks : meth.locks = false) (hB0 : B0 ≤ s.heap.size) (hP : XP ad D T h H) (hK : XK D T s) (hN : XN B0 s s.heap) (hS : va_S (fun q => B0 ≤ q) s.heap H locs) (hdg : decode cc pc = .ok (.areturn, 1)) (hc : cells ≤ mc) (hs : slots ≤ ms) (hw : K r h) : W p l e R s m args below meth c H locs cells slots (MQ below (XQ B0 ad D T enc K) args s mc ms (fun q => B0 ≤ q)) (F0 m pc ls [v]) :=
  W.widen hc hs (W.aret hexec hb hr hrt hv (fun t ht hW => ⟨⟨r, h, by rw [hv2], hw, by rw [ht]; exact hP⟩, hS.F ht⟩) hS.2.2 hdg)
theorem xcatq (o : Option Nat) : (va_rf o).category = 1 := by cases o <;> rfl
end XROWS
